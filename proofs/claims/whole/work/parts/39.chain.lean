/-! PURE: chain, ring -/
theorem lp_r {σ ρ : Type} {step : σ → Option (ρ ⊕ σ)} {n : Nat} {s t : σ} {r : ρ} (h : step s = some (.inr t)) (h2 : lp step n t = some r) : lp step (n + 1) s = some r := by
  unfold lp
  rw [h]
  exact h2
theorem lp_l {σ ρ : Type} {step : σ → Option (ρ ⊕ σ)} {n : Nat} {s : σ} {r : ρ} (h : step s = some (.inl r)) : lp step (n + 1) s = some r := by
  unfold lp
  rw [h]
noncomputable def wk (T : TG) (l : Nat) : Nat → Nat
  | 0 => l
  | i + 1 => if wk T l i = 0 then 0 else best0 T (wk T l i)
theorem wk_s {T : TG} {l i : Nat} (h : ¬ wk T l i = 0) : wk T l (i + 1) = best0 T (wk T l i) := if_neg h
theorem wk_z {T : TG} {l i : Nat} (h : wk T l i = 0) : ∀ d, wk T l (i + d) = 0
  | 0 => h
  | d + 1 => if_pos (wk_z h d)
theorem wk_z2 {T : TG} {l i j : Nat} (h : wk T l i = 0) (hj : i ≤ j) : wk T l j = 0 := by
  obtain ⟨d, rfl⟩ : ∃ d, j = i + d := ⟨j - i, by omega⟩
  exact wk_z h d
theorem wk_ok {T : TG} {l : Nat} (hl : l < 1000) (hL : isL T l = true) : ∀ i, wk T l i = 0 ∨ (wk T l i < 1000 ∧ isL T (wk T l i) = true)
  | 0 => Or.inr ⟨hl, hL⟩
  | i + 1 => by
    by_cases h : wk T l i = 0
    · exact Or.inl (wk_z h 1)
    · rw [wk_s h]
      exact b0_mem.imp id fun h => ⟨h.1, h.2.1⟩
theorem c_bst {M : MM} {T : TG} {sp dr l i : Nat} (L : LAY M sp dr) (hS : SAY M T) (hl : l < 1000) (hL : isL T l = true) (hi : ¬ wk T l i = 0) : fR M 3 1 7 = some 11 ∧ aI M 11 (nI (wk T l i)) = some (nI (wk T l (i + 1))) ∧ (nI (wk T l (i + 1)) = 0 ↔ wk T l (i + 1) = 0) := by
  have hN := L.1
  obtain ⟨h1, h2⟩ := (wk_ok hl hL i).resolve_left hi
  have t := hS.2.2.2.1 _ h1 h2
  have a := aI_e (p := 11) (i := wk T l i) hN (by decide) rfl (by rw [lnv_11]; omega)
  rw [t, ← wk_s hi] at a
  refine ⟨by rw [fR_e hN (by decide) rfl]; exact ly_3_7 L, a, ?_⟩
  have hb : wk T l (i + 1) < 1000 := by rw [wk_s hi]; exact b0_lt
  exact nI_eq (b := 0) (by omega) (by decide)
theorem c_follow {M : MM} {T : TG} {sp dr l n : Nat} (L : LAY M sp dr) (hS : SAY M T) (hl : l < 1000) (hL : isL T l = true) (hn : n < 100) : f_X1_follow M 3 (nI l) (nI n) = some (nb (wk T l n)) := by
  have hN := L.1
  have key : ∀ d fuel i, i + d = n → ¬ wk T l i = 0 → d < fuel → lp (fun t => z_X1_follow_5 M 3 (nI n) t.1 t.2) fuel (nI (wk T l i), nI i) = some (nb (wk T l n)) := by
    intro d
    induction d with
    | zero =>
      intro fuel i hi h0 hf
      obtain ⟨fuel, rfl⟩ : ∃ m, fuel = m + 1 := ⟨fuel - 1, by omega⟩
      obtain rfl : i = n := by omega
      have c1 : nI i ≤ nI i := Int32.le_refl _
      unfold lp z_X1_follow_5
      simp only [if_pos c1]
      rw [nb, if_neg h0]
    | succ d ih =>
      intro fuel i hi h0 hf
      obtain ⟨fuel, rfl⟩ : ∃ m, fuel = m + 1 := ⟨fuel - 1, by omega⟩
      have c1 : ¬ nI n ≤ nI i := fun e => by have := (nI_leI (by omega) (by omega)).mp e; omega
      obtain ⟨r, a, z⟩ := c_bst L hS hl hL h0
      by_cases hz : wk T l (i + 1) = 0
      · refine lp_l ?_
        show z_X1_follow_5 M 3 (nI n) (nI (wk T l i)) (nI i) = _
        unfold z_X1_follow_5
        rw [if_neg c1, r, Option.bind_some, a, Option.bind_some, if_pos (z.mpr hz), wk_z2 hz (show i + 1 ≤ n by omega)]
        rfl
      · refine lp_r (t := (nI (wk T l (i + 1)), nI (i + 1))) ?_ (ih fuel (i + 1) (by omega) hz (by omega))
        show z_X1_follow_5 M 3 (nI n) (nI (wk T l i)) (nI i) = _
        unfold z_X1_follow_5
        rw [if_neg c1, r, Option.bind_some, a, Option.bind_some, if_neg (fun e => hz (z.mp e)), nI_1]
  have hl0 : ¬ wk T l 0 = 0 := fun e => by
    have e2 : l = 0 := e
    rw [e2, not_L0] at hL
    cases hL
  unfold f_X1_follow
  rw [if_pos (by rw [hN]; decide)]
  exact key n FU 0 (by omega) hl0 (show n < 4000 by omega)
def ROWS (M : MM) (T : TG) (l N : Nat) (w : Nat → Nat) : Prop := ∀ i, i < N → ¬ w i = 0 ∧ gI M 92 i = nI (LB T (w i)).length
theorem m_lays0 {T : TG} {sp dr l : Nat} (hT : TOK T) (hl : l < 1000) (hL : isL T l = true) : ∀ d fuel n M, n + d = 100 → 1 ≤ n → d < fuel → LAY M sp dr → LST M T → ROWS M T l n (wk T l) → ∃ N M', lp (fun t => z_X7_lays_9 t.2 81 t.1) fuel (nI n, M) = some (nI N, M') ∧ n ≤ N ∧ N ≤ 100 ∧ ROWS M' T l N (wk T l) ∧ (N = 100 ∨ wk T l N = 0) ∧ Ag M M' [92] := by
  intro d
  induction d with
  | zero =>
    intro fuel n M hn h1 hf L hLs hR
    obtain ⟨fuel, rfl⟩ : ∃ m, fuel = m + 1 := ⟨fuel - 1, by omega⟩
    obtain rfl : n = 100 := by omega
    have c1 : (100 : Int32) ≤ nI 100 := by decide
    refine ⟨100, M, ?_, by omega, by omega, hR, Or.inl rfl, Ag.rf⟩
    unfold lp z_X7_lays_9
    simp only [if_pos c1]
  | succ d ih =>
    intro fuel n M hn h1 hf L hLs hR
    have hN := L.1
    obtain ⟨fuel, rfl⟩ : ∃ m, fuel = m + 1 := ⟨fuel - 1, by omega⟩
    obtain ⟨n, rfl⟩ : ∃ m, n = m + 1 := ⟨n - 1, by omega⟩
    have c1 : ¬ (100 : Int32) ≤ nI (n + 1) := fun e => by have := (nI_leI (a := 100) (by omega) (by omega)).mp e; omega
    obtain ⟨hw, hv⟩ := hR n (by omega)
    obtain ⟨w1, w2⟩ := (wk_ok hl hL n).resolve_left hw
    obtain ⟨hj, ej⟩ := LB_ix w1 w2
    have hb := m_best0 L hT hLs hj
    rw [ej, ← wk_s hw] at hb
    have r := fR_e (p := 81) (c := 7) (k := 17) hN (by decide) rfl
    rw [ly_81_17 L] at r
    have a := aI_e (p := 92) (i := n) hN (by decide) rfl (by rw [lnv_92]; omega)
    rw [hv] at a
    have hwl : wk T l (n + 1) < 1000 := by rw [wk_s hw]; exact b0_lt
    have hp := pl_no (T := T) hwl
    unfold lp z_X7_lays_9
    simp only [if_neg c1, r, Option.bind_some, nI_pred, a, hb]
    by_cases hz : wk T l (n + 1) = 0
    · rw [if_pos (hp.mpr hz)]
      exact ⟨n + 1, M, rfl, Nat.le_refl _, by omega, hR, Or.inr hz, Ag.rf⟩
    · rw [if_neg (fun e => hz (hp.mp e))]
      have wa := waI_e (v := pl T (wk T l (n + 1))) (p := 92) (i := n + 1) hN (by decide) rfl (by rw [lnv_92]; omega)
      simp only [wa, Option.bind_some]
      rw [nI_1]
      have ag : Ag M (sI M 92 (n + 1) (pl T (wk T l (n + 1)))) [92] := Ag.rf.sI (by simp)
      have L' := L.ag ag
      have hLs' : LST (sI M 92 (n + 1) (pl T (wk T l (n + 1)))) T := hLs.ag ag (ag.2.2.1 81 (by decide) 12) (by decide)
      have hR' : ROWS (sI M 92 (n + 1) (pl T (wk T l (n + 1)))) T l (n + 1 + 1) (wk T l) := by
        intro i hi
        rw [gI_sI]
        by_cases h : i = n + 1
        · subst h
          rw [if_pos ⟨rfl, rfl⟩]
          refine ⟨hz, ?_⟩
          rw [pl, if_neg hz]
        · rw [if_neg (fun e => h e.2)]
          exact hR i (by omega)
      obtain ⟨N, M', q1, q2, q3, q4, q5, q6⟩ := ih fuel (n + 1 + 1) _ (by omega) (by omega) (by omega) L' hLs' hR'
      exact ⟨N, M', q1, by omega, q3, q4, q5, ag.tr q6⟩
theorem m_lays {M : MM} {T : TG} {sp dr j : Nat} (L : LAY M sp dr) (hT : TOK T) (hLs : LST M T) (hj : j < (Lt T).length) : ∃ N M', f_X7_lays M 81 (nI j) = some (nI N, M') ∧ 1 ≤ N ∧ N ≤ 100 ∧ ROWS M' T (Lt T)[j] N (wk T (Lt T)[j]) ∧ (N = 100 ∨ wk T (Lt T)[j] N = 0) ∧ Ag M M' [92] := by
  have hN := L.1
  obtain ⟨hl, hLj⟩ := Lt_at hj
  have hat := LB_at hj
  generalize (Lt T)[j] = l at hl hLj hat
  have r := fR_e (p := 81) (c := 7) (k := 17) hN (by decide) rfl
  rw [ly_81_17 L] at r
  have wa := waI_e (v := nI j) (p := 92) (i := 0) hN (by decide) rfl (by rw [lnv_92]; omega)
  rw [n00] at wa
  have ag : Ag M (sI M 92 0 (nI j)) [92] := Ag.rf.sI (by simp)
  have L' := L.ag ag
  have hLs' : LST (sI M 92 0 (nI j)) T := hLs.ag ag (ag.2.2.1 81 (by decide) 12) (by decide)
  have hl0 : ¬ l = 0 := fun e => by rw [e, not_L0] at hLj; cases hLj
  have hR' : ROWS (sI M 92 0 (nI j)) T l 1 (wk T l) := by
    intro i hi
    obtain rfl : i = 0 := by omega
    rw [gI_sI, if_pos ⟨rfl, rfl⟩]
    refine ⟨hl0, ?_⟩
    show nI j = nI (LB T l).length
    rw [hat]
  obtain ⟨N, M', q1, q2, q3, q4, q5, q6⟩ := m_lays0 hT hl hLj 99 FU 1 _ (by omega) (by omega) (show 99 < 4000 by omega) L' hLs' hR'
  refine ⟨N, M', ?_, q2, q3, q4, q5, ag.tr q6⟩
  unfold f_X7_lays
  rw [if_pos (by rw [hN]; decide), r, Option.bind_some, wa, Option.bind_some]
  exact q1
theorem Inv.ag92 {M M' : MM} {T : TG} {sp dr : Nat} (I : Inv M T sp dr) (a : Ag M M' [92]) : Inv M' T sp dr := by
  obtain ⟨L, hT, hC, hM, hS, hLs, hX, hP, hI0, hI1, hJ⟩ := id I
  exact I.ag a (by decide) (a.2.2.1 81 (by decide) 12) (hX.ag a (a.2.2.1 81 (by decide) 2) (by decide)) (hP.ag a (by decide)) (hI0.ag a (by decide)) (hI1.ag a (by decide)) (by rw [a.2.2.2 0 (by decide), a.2.2.2 81 (by decide)]; exact hJ)
theorem eq_chain {M : MM} {T : TG} {sp dr : Nat} (I : Inv M T sp dr) (x y : Int32) : ∃ r M2, f_X6_chain M 0 x y = some r ∧ f_X7_chain M 81 x y = some (r, M2) ∧ M2.1 = M.1 ∧ Inv M2 T sp dr := by
  obtain ⟨L, hT, hC, hM, hS, hLs, hX, hP, hI0, hI1, hJ⟩ := id I
  have hN := L.1
  obtain ⟨n, hn, x1, x2, x3⟩ := hX
  obtain ⟨k, hk, p1, p2, p3⟩ := hP
  have hst : sp = 23 ∨ sp = 52 := by rcases L.2.1 with ⟨h, -⟩ | ⟨h, -⟩ <;> omega
  obtain ⟨ks0, ks1, ks2, ks3, ks4, ks5, ks6, ks7, ks8⟩ := tkf hst
  obtain ⟨lt0, lt1, lt2, lt3⟩ := ly_t L sp hst

  rcases let_cases T x with h | ⟨j, hj, rfl⟩
  · exact ⟨-1, M, by simp [f_X6_chain, fI_e, aI_l, aZ_l, aR_l, waI_l, waZ_l, fJ_e, fR_e, wfI_e, wfZ_e, wfJ_e, wfR_e, aI_e, aZ_e, aJ_e, aR_e, waI_e, waZ_e, waJ_e, n_sI, n_sJ, n_sR, gI_sI, gI_sJ, gI_sR, gJ_sI, gJ_sJ, gJ_sR, gR_sI, gR_sJ, gR_sR, Option.bind_some, Option.map_some, kdv_0, kdv_1, kdv_2, kdv_3, kdv_4, kdv_5, kdv_6, kdv_7, kdv_8, kdv_9, kdv_10, kdv_11, kdv_12, kdv_13, kdv_14, kdv_15, kdv_16, kdv_17, kdv_18, kdv_19, kdv_20, kdv_21, kdv_22, kdv_23, kdv_24, kdv_25, kdv_26, kdv_27, kdv_28, kdv_29, kdv_30, kdv_31, kdv_32, kdv_33, kdv_34, kdv_35, kdv_36, kdv_37, kdv_38, kdv_39, kdv_40, kdv_41, kdv_42, kdv_43, kdv_44, kdv_45, kdv_46, kdv_47, kdv_48, kdv_49, kdv_50, kdv_51, kdv_52, kdv_53, kdv_54, kdv_55, kdv_56, kdv_57, kdv_58, kdv_59, kdv_60, kdv_61, kdv_62, kdv_63, kdv_64, kdv_65, kdv_66, kdv_67, kdv_68, kdv_69, kdv_70, kdv_71, kdv_72, kdv_73, kdv_74, kdv_75, kdv_76, kdv_77, kdv_78, kdv_79, kdv_80, kdv_81, kdv_82, kdv_83, kdv_84, kdv_85, kdv_86, kdv_87, kdv_88, kdv_89, kdv_90, kdv_91, kdv_92, lnv_2, lnv_4, lnv_5, lnv_6, lnv_7, lnv_8, lnv_9, lnv_10, lnv_11, lnv_12, lnv_13, lnv_14, lnv_15, lnv_17, lnv_18, lnv_20, lnv_22, lnv_24, lnv_25, lnv_53, lnv_54, lnv_82, lnv_83, lnv_84, lnv_85, lnv_86, lnv_87, lnv_88, lnv_89, lnv_90, lnv_91, lnv_92, hN, (ly_0_0 L), (ly_0_1 L), (ly_0_2 L), (ly_0_3 L), (ly_0_4 L), (ly_0_5 L), (ly_1_0 L), (ly_3_0 L), (ly_3_1 L), (ly_3_2 L), (ly_3_3 L), (ly_3_4 L), (ly_3_5 L), (ly_3_6 L), (ly_3_7 L), (ly_3_8 L), (ly_3_10 L), (ly_3_11 L), (ly_3_12 L), (ly_16_0 L), (ly_18_0 L), (ly_18_1 L), (ly_19_0 L), (ly_21_0 L), (ly_81_1 L), (ly_81_3 L), (ly_81_4 L), (ly_81_5 L), (ly_81_6 L), (ly_81_7 L), (ly_81_8 L), (ly_81_9 L), (ly_81_10 L), (ly_81_11 L), (ly_81_17 L), c_can_no L hS h], by simp [f_X7_chain, hN, kdv_81, m_place_no L hLs h], rfl, I⟩
  · have hlen := Lt_819 (T := T)
    obtain ⟨hl, hLj⟩ := Lt_at hj
    have hc := c_can L hS hl
    rw [hLj] at hc
    have hp := m_place_at L hLs hj
    have hnm : ¬ nI j = -9 := nI_nm (by omega) (by decide)
    have hb1 : b2i true = 1 := rfl
    rw [hb1] at hc
    rcases i_cases y with hy | ⟨i, hi, rfl⟩
    · exact ⟨-1, M, by simp [f_X6_chain, fI_e, aI_l, aZ_l, aR_l, waI_l, waZ_l, fJ_e, fR_e, wfI_e, wfZ_e, wfJ_e, wfR_e, aI_e, aZ_e, aJ_e, aR_e, waI_e, waZ_e, waJ_e, n_sI, n_sJ, n_sR, gI_sI, gI_sJ, gI_sR, gJ_sI, gJ_sJ, gJ_sR, gR_sI, gR_sJ, gR_sR, Option.bind_some, Option.map_some, kdv_0, kdv_1, kdv_2, kdv_3, kdv_4, kdv_5, kdv_6, kdv_7, kdv_8, kdv_9, kdv_10, kdv_11, kdv_12, kdv_13, kdv_14, kdv_15, kdv_16, kdv_17, kdv_18, kdv_19, kdv_20, kdv_21, kdv_22, kdv_23, kdv_24, kdv_25, kdv_26, kdv_27, kdv_28, kdv_29, kdv_30, kdv_31, kdv_32, kdv_33, kdv_34, kdv_35, kdv_36, kdv_37, kdv_38, kdv_39, kdv_40, kdv_41, kdv_42, kdv_43, kdv_44, kdv_45, kdv_46, kdv_47, kdv_48, kdv_49, kdv_50, kdv_51, kdv_52, kdv_53, kdv_54, kdv_55, kdv_56, kdv_57, kdv_58, kdv_59, kdv_60, kdv_61, kdv_62, kdv_63, kdv_64, kdv_65, kdv_66, kdv_67, kdv_68, kdv_69, kdv_70, kdv_71, kdv_72, kdv_73, kdv_74, kdv_75, kdv_76, kdv_77, kdv_78, kdv_79, kdv_80, kdv_81, kdv_82, kdv_83, kdv_84, kdv_85, kdv_86, kdv_87, kdv_88, kdv_89, kdv_90, kdv_91, kdv_92, lnv_2, lnv_4, lnv_5, lnv_6, lnv_7, lnv_8, lnv_9, lnv_10, lnv_11, lnv_12, lnv_13, lnv_14, lnv_15, lnv_17, lnv_18, lnv_20, lnv_22, lnv_24, lnv_25, lnv_53, lnv_54, lnv_82, lnv_83, lnv_84, lnv_85, lnv_86, lnv_87, lnv_88, lnv_89, lnv_90, lnv_91, lnv_92, hN, (ly_0_0 L), (ly_0_1 L), (ly_0_2 L), (ly_0_3 L), (ly_0_4 L), (ly_0_5 L), (ly_1_0 L), (ly_3_0 L), (ly_3_1 L), (ly_3_2 L), (ly_3_3 L), (ly_3_4 L), (ly_3_5 L), (ly_3_6 L), (ly_3_7 L), (ly_3_8 L), (ly_3_10 L), (ly_3_11 L), (ly_3_12 L), (ly_16_0 L), (ly_18_0 L), (ly_18_1 L), (ly_19_0 L), (ly_21_0 L), (ly_81_1 L), (ly_81_3 L), (ly_81_4 L), (ly_81_5 L), (ly_81_6 L), (ly_81_7 L), (ly_81_8 L), (ly_81_9 L), (ly_81_10 L), (ly_81_11 L), (ly_81_17 L), hc, hy], by simp [f_X7_chain, hN, kdv_81, hp, hnm, m_in_neg hy], rfl, I⟩
    · have hin := m_in (M := M) (j := i) (a := 0) (b := 99) hi (by decide) (by decide)
      rw [show nI 0 = (0 : Int32) from rfl, show nI 99 = (99 : Int32) from rfl] at hin
      have h0 : ¬ nI i < 0 := nI_pos hi
      by_cases h99 : i ≤ 99
      · obtain ⟨N, M', q1, q2, q3, q4, q5, q6⟩ := m_lays L hT hLs hj
        have hcf := c_follow L hS hl hLj (show i < 100 by omega)
        have hN' : M'.1 = 93 := q6.1.trans hN
        have L' := L.ag q6
        have I' := I.ag92 q6
        refine ⟨nb (wk T (Lt T)[j] i), M', by simp [f_X6_chain, fI_e, aI_l, aZ_l, aR_l, waI_l, waZ_l, fJ_e, fR_e, wfI_e, wfZ_e, wfJ_e, wfR_e, aI_e, aZ_e, aJ_e, aR_e, waI_e, waZ_e, waJ_e, n_sI, n_sJ, n_sR, gI_sI, gI_sJ, gI_sR, gJ_sI, gJ_sJ, gJ_sR, gR_sI, gR_sJ, gR_sR, Option.bind_some, Option.map_some, kdv_0, kdv_1, kdv_2, kdv_3, kdv_4, kdv_5, kdv_6, kdv_7, kdv_8, kdv_9, kdv_10, kdv_11, kdv_12, kdv_13, kdv_14, kdv_15, kdv_16, kdv_17, kdv_18, kdv_19, kdv_20, kdv_21, kdv_22, kdv_23, kdv_24, kdv_25, kdv_26, kdv_27, kdv_28, kdv_29, kdv_30, kdv_31, kdv_32, kdv_33, kdv_34, kdv_35, kdv_36, kdv_37, kdv_38, kdv_39, kdv_40, kdv_41, kdv_42, kdv_43, kdv_44, kdv_45, kdv_46, kdv_47, kdv_48, kdv_49, kdv_50, kdv_51, kdv_52, kdv_53, kdv_54, kdv_55, kdv_56, kdv_57, kdv_58, kdv_59, kdv_60, kdv_61, kdv_62, kdv_63, kdv_64, kdv_65, kdv_66, kdv_67, kdv_68, kdv_69, kdv_70, kdv_71, kdv_72, kdv_73, kdv_74, kdv_75, kdv_76, kdv_77, kdv_78, kdv_79, kdv_80, kdv_81, kdv_82, kdv_83, kdv_84, kdv_85, kdv_86, kdv_87, kdv_88, kdv_89, kdv_90, kdv_91, kdv_92, lnv_2, lnv_4, lnv_5, lnv_6, lnv_7, lnv_8, lnv_9, lnv_10, lnv_11, lnv_12, lnv_13, lnv_14, lnv_15, lnv_17, lnv_18, lnv_20, lnv_22, lnv_24, lnv_25, lnv_53, lnv_54, lnv_82, lnv_83, lnv_84, lnv_85, lnv_86, lnv_87, lnv_88, lnv_89, lnv_90, lnv_91, lnv_92, hN, (ly_0_0 L), (ly_0_1 L), (ly_0_2 L), (ly_0_3 L), (ly_0_4 L), (ly_0_5 L), (ly_1_0 L), (ly_3_0 L), (ly_3_1 L), (ly_3_2 L), (ly_3_3 L), (ly_3_4 L), (ly_3_5 L), (ly_3_6 L), (ly_3_7 L), (ly_3_8 L), (ly_3_10 L), (ly_3_11 L), (ly_3_12 L), (ly_16_0 L), (ly_18_0 L), (ly_18_1 L), (ly_19_0 L), (ly_21_0 L), (ly_81_1 L), (ly_81_3 L), (ly_81_4 L), (ly_81_5 L), (ly_81_6 L), (ly_81_7 L), (ly_81_8 L), (ly_81_9 L), (ly_81_10 L), (ly_81_11 L), (ly_81_17 L), hc, h0, n_le_l, hi, h99, hcf], ?_, q6.1, I'⟩
        have c2 : (nI N ≤ nI i) = (N ≤ i) := nn_le (by omega) (by omega)
        have g : 81 < M.1 ∧ kd 81 = 7 := by rw [hN]; decide
        unfold f_X7_chain
        rw [if_pos g, hp, Option.bind_some, if_neg hnm, hin, Option.bind_some, if_neg (by simp [h99]), q1, Option.bind_some, if_pos q6.1]
        by_cases hNi : N ≤ i
        · rw [if_pos (by rw [c2]; exact hNi)]
          have hz : wk T (Lt T)[j] i = 0 := wk_z2 (q5.resolve_left (by omega)) hNi
          rw [hz]
          rfl
        · rw [if_neg (by rw [c2]; exact hNi)]
          obtain ⟨hw, hv⟩ := q4 i (by omega)
          obtain ⟨w1, w2⟩ := (wk_ok hl hLj i).resolve_left hw
          obtain ⟨hk, ek⟩ := LB_ix w1 w2
          have hLs' : LST M' T := hLs.ag q6 (q6.2.2.1 81 (by decide) 12) (by decide)
          have t := (hLs'.2 _ hk).1
          rw [ek] at t
          have r8 := fR_e (p := 81) (c := 7) (k := 8) hN' (by decide) rfl
          rw [ly_81_8 L'] at r8
          have r17 := fR_e (p := 81) (c := 7) (k := 17) hN' (by decide) rfl
          rw [ly_81_17 L'] at r17
          have a1 := aI_e (p := 92) (i := i) hN' (by decide) rfl (by rw [lnv_92]; omega)
          rw [hv] at a1
          have a2 := aI_e (p := 88) (i := (LB T (wk T (Lt T)[j] i)).length) hN' (by decide) rfl (by rw [lnv_88]; omega)
          rw [t] at a2
          rw [r8, Option.bind_some, r17, Option.bind_some, a1, Option.bind_some, a2, Option.bind_some, nb, if_neg hw]
      · exact ⟨-1, M, by simp [f_X6_chain, fI_e, aI_l, aZ_l, aR_l, waI_l, waZ_l, fJ_e, fR_e, wfI_e, wfZ_e, wfJ_e, wfR_e, aI_e, aZ_e, aJ_e, aR_e, waI_e, waZ_e, waJ_e, n_sI, n_sJ, n_sR, gI_sI, gI_sJ, gI_sR, gJ_sI, gJ_sJ, gJ_sR, gR_sI, gR_sJ, gR_sR, Option.bind_some, Option.map_some, kdv_0, kdv_1, kdv_2, kdv_3, kdv_4, kdv_5, kdv_6, kdv_7, kdv_8, kdv_9, kdv_10, kdv_11, kdv_12, kdv_13, kdv_14, kdv_15, kdv_16, kdv_17, kdv_18, kdv_19, kdv_20, kdv_21, kdv_22, kdv_23, kdv_24, kdv_25, kdv_26, kdv_27, kdv_28, kdv_29, kdv_30, kdv_31, kdv_32, kdv_33, kdv_34, kdv_35, kdv_36, kdv_37, kdv_38, kdv_39, kdv_40, kdv_41, kdv_42, kdv_43, kdv_44, kdv_45, kdv_46, kdv_47, kdv_48, kdv_49, kdv_50, kdv_51, kdv_52, kdv_53, kdv_54, kdv_55, kdv_56, kdv_57, kdv_58, kdv_59, kdv_60, kdv_61, kdv_62, kdv_63, kdv_64, kdv_65, kdv_66, kdv_67, kdv_68, kdv_69, kdv_70, kdv_71, kdv_72, kdv_73, kdv_74, kdv_75, kdv_76, kdv_77, kdv_78, kdv_79, kdv_80, kdv_81, kdv_82, kdv_83, kdv_84, kdv_85, kdv_86, kdv_87, kdv_88, kdv_89, kdv_90, kdv_91, kdv_92, lnv_2, lnv_4, lnv_5, lnv_6, lnv_7, lnv_8, lnv_9, lnv_10, lnv_11, lnv_12, lnv_13, lnv_14, lnv_15, lnv_17, lnv_18, lnv_20, lnv_22, lnv_24, lnv_25, lnv_53, lnv_54, lnv_82, lnv_83, lnv_84, lnv_85, lnv_86, lnv_87, lnv_88, lnv_89, lnv_90, lnv_91, lnv_92, hN, (ly_0_0 L), (ly_0_1 L), (ly_0_2 L), (ly_0_3 L), (ly_0_4 L), (ly_0_5 L), (ly_1_0 L), (ly_3_0 L), (ly_3_1 L), (ly_3_2 L), (ly_3_3 L), (ly_3_4 L), (ly_3_5 L), (ly_3_6 L), (ly_3_7 L), (ly_3_8 L), (ly_3_10 L), (ly_3_11 L), (ly_3_12 L), (ly_16_0 L), (ly_18_0 L), (ly_18_1 L), (ly_19_0 L), (ly_21_0 L), (ly_81_1 L), (ly_81_3 L), (ly_81_4 L), (ly_81_5 L), (ly_81_6 L), (ly_81_7 L), (ly_81_8 L), (ly_81_9 L), (ly_81_10 L), (ly_81_11 L), (ly_81_17 L), hc, h0, n_le_l, hi, h99], by simp [f_X7_chain, hN, kdv_81, hp, hnm, hin, h99], rfl, I⟩
noncomputable def rg (T : TG) (l k : Nat) : Bool := (List.range k).any fun i => decide (wk T l i = wk T l k)
theorem rg_yes {T : TG} {l k i : Nat} (hi : i < k) (h : wk T l i = wk T l k) : rg T l k = true := List.any_eq_true.mpr ⟨i, List.mem_range.mpr hi, decide_eq_true h⟩
theorem rg_no {T : TG} {l k : Nat} (h : ∀ j, j < k → ¬ wk T l j = wk T l k) : ¬ rg T l k = true := fun e => by
  obtain ⟨j, h1, h2⟩ := List.any_eq_true.mp e
  exact h j (List.mem_range.mp h1) (of_decide_eq_true h2)
noncomputable def rr (T : TG) (l : Nat) : Nat → Nat → Int32
  | 0, _ => -9
  | d + 1, k => if wk T l k = 0 then -9 else if rg T l k = true then nI k else rr T l d (k + 1)
theorem c_ring1 {M : MM} {T : TG} {sp dr l k : Nat} (L : LAY M sp dr) (hS : SAY M T) (hl : l < 1000) (hL : isL T l = true) (hk : ¬ wk T l k = 0) (hk1 : k < 100) : ∀ d fuel i, i + d = k → (∀ j, j < i → ¬ wk T l j = wk T l k) → d < fuel → lp (fun t => z_X1_stepsToRing_30 M 3 (nI l) (nI (wk T l k)) (nI k) t.1 t.2) fuel (nI (wk T l i), nI i) = some (if rg T l k = true then .inl (nI k) else .inr (nI (wk T l k), nI (k + 1))) := by
  intro d
  induction d with
  | zero =>
    intro fuel i hi h hf
    obtain ⟨fuel, rfl⟩ : ∃ m, fuel = m + 1 := ⟨fuel - 1, by omega⟩
    obtain rfl : i = k := by omega
    have c1 : nI i ≤ nI i := Int32.le_refl _
    have hn := rg_no h
    unfold lp z_X1_stepsToRing_30
    simp only [if_pos c1]
    rw [if_neg hn, nI_1]
  | succ d ih =>
    intro fuel i hi h hf
    obtain ⟨fuel, rfl⟩ : ∃ m, fuel = m + 1 := ⟨fuel - 1, by omega⟩
    have c1 : ¬ nI k ≤ nI i := fun e => by have := (nI_leI (by omega) (by omega)).mp e; omega
    have hwi : ¬ wk T l i = 0 := fun e => hk (wk_z2 e (by omega))
    obtain ⟨b1, -⟩ := (wk_ok hl hL i).resolve_left hwi
    obtain ⟨b2, -⟩ := (wk_ok hl hL k).resolve_left hk
    have ce : (nI (wk T l i) = nI (wk T l k)) ↔ wk T l i = wk T l k := nI_eq (by omega) (by omega)
    by_cases he : wk T l i = wk T l k
    · refine lp_l ?_
      show z_X1_stepsToRing_30 M 3 (nI l) (nI (wk T l k)) (nI k) (nI (wk T l i)) (nI i) = _
      unfold z_X1_stepsToRing_30
      rw [if_neg c1, if_pos (ce.mpr he), if_pos (rg_yes (show i < k by omega) he)]
    · obtain ⟨r, a, -⟩ := c_bst L hS hl hL hwi
      refine lp_r (t := (nI (wk T l (i + 1)), nI (i + 1))) ?_ (ih fuel (i + 1) (by omega) (fun j hj => by
        by_cases hj2 : j = i
        · rw [hj2]; exact he
        · exact h j (by omega)) (by omega))
      show z_X1_stepsToRing_30 M 3 (nI l) (nI (wk T l k)) (nI k) (nI (wk T l i)) (nI i) = _
      unfold z_X1_stepsToRing_30
      rw [if_neg c1, if_neg (fun e => he (ce.mp e)), r, Option.bind_some, a, Option.bind_some, nI_1]
theorem c_ring {M : MM} {T : TG} {sp dr l : Nat} (L : LAY M sp dr) (hS : SAY M T) (hl : l < 1000) (hL : isL T l = true) : ∀ d fuel k, k + 1 + d = 100 → ¬ wk T l k = 0 → d < fuel → lp (fun t => z_X1_stepsToRing_4 M 3 (nI l) t.1 t.2) fuel (nI (wk T l k), nI (k + 1)) = some (rr T l d (k + 1)) := by
  intro d
  induction d with
  | zero =>
    intro fuel k hi h0 hf
    obtain ⟨fuel, rfl⟩ : ∃ m, fuel = m + 1 := ⟨fuel - 1, by omega⟩
    obtain rfl : k = 99 := by omega
    have c1 : (99 : Int32) < nI (99 + 1) := by decide
    unfold lp z_X1_stepsToRing_4
    simp only [if_pos c1]
    rfl
  | succ d ih =>
    intro fuel k hi h0 hf
    obtain ⟨fuel, rfl⟩ : ∃ m, fuel = m + 1 := ⟨fuel - 1, by omega⟩
    have c1 : ¬ (99 : Int32) < nI (k + 1) := fun e => by have := (nI_ltI (a := 99) (by omega) (by omega)).mp e; omega
    obtain ⟨r, a, z⟩ := c_bst L hS hl hL h0
    unfold rr
    by_cases hz : wk T l (k + 1) = 0
    · refine lp_l ?_
      show z_X1_stepsToRing_4 M 3 (nI l) (nI (wk T l k)) (nI (k + 1)) = _
      unfold z_X1_stepsToRing_4
      rw [if_neg c1, r, Option.bind_some, a, Option.bind_some, if_pos (z.mpr hz), if_pos hz]
    · rw [if_neg hz]
      have h1 := c_ring1 L hS hl hL hz (show k + 1 < 100 by omega) (k + 1) FU 0 (by omega) (fun j hj => absurd hj (by omega)) (show k + 1 < 4000 by omega)
      rw [show nI (wk T l 0) = nI l from rfl, n00] at h1
      by_cases hr : rg T l (k + 1) = true
      · rw [if_pos hr] at h1 ⊢
        refine lp_l ?_
        show z_X1_stepsToRing_4 M 3 (nI l) (nI (wk T l k)) (nI (k + 1)) = _
        unfold z_X1_stepsToRing_4
        rw [if_neg c1, r, Option.bind_some, a, Option.bind_some, if_neg (fun e => hz (z.mp e)), h1]
      · rw [if_neg hr] at h1 ⊢
        refine lp_r (t := (nI (wk T l (k + 1)), nI (k + 1 + 1))) ?_ (ih fuel (k + 1) (by omega) hz (by omega))
        show z_X1_stepsToRing_4 M 3 (nI l) (nI (wk T l k)) (nI (k + 1)) = _
        unfold z_X1_stepsToRing_4
        rw [if_neg c1, r, Option.bind_some, a, Option.bind_some, if_neg (fun e => hz (z.mp e)), h1]
theorem m_ring1 {M : MM} {T : TG} {sp dr l k N : Nat} {a3 : Int32} (L : LAY M sp dr) (hl : l < 1000) (hL : isL T l = true) (hR : ROWS M T l N (wk T l)) (hN1 : N ≤ 100) (hkN : k < N) : ∀ d fuel i, i + d = k → (∀ j, j < i → ¬ wk T l j = wk T l k) → d < fuel → lp (fun t => z_X7_ring_32 M 81 a3 (nI k) t) fuel (nI i) = some (if rg T l k = true then .inl (nI k, M) else .inr (nI (k + 1))) := by
  intro d
  have hN := L.1
  have hlen := Lt_819 (T := T)
  have r17 := fR_e (p := 81) (c := 7) (k := 17) hN (by decide) rfl
  rw [ly_81_17 L] at r17
  obtain ⟨k0, vk⟩ := hR k hkN
  obtain ⟨k1, k2⟩ := (wk_ok hl hL k).resolve_left k0
  obtain ⟨hjk, ejk⟩ := LB_ix k1 k2
  have ak := aI_e (p := 92) (i := k) hN (by decide) rfl (by rw [lnv_92]; omega)
  rw [vk] at ak
  induction d with
  | zero =>
    intro fuel i hi h hf
    obtain ⟨fuel, rfl⟩ : ∃ m, fuel = m + 1 := ⟨fuel - 1, by omega⟩
    obtain rfl : i = k := by omega
    have c1 : nI i ≤ nI i := Int32.le_refl _
    have hn := rg_no h
    unfold lp z_X7_ring_32
    simp only [if_pos c1]
    rw [if_neg hn, nI_1]
  | succ d ih =>
    intro fuel i hi h hf
    obtain ⟨fuel, rfl⟩ : ∃ m, fuel = m + 1 := ⟨fuel - 1, by omega⟩
    have c1 : ¬ nI k ≤ nI i := fun e => by have := (nI_leI (by omega) (by omega)).mp e; omega
    obtain ⟨i0, vi⟩ := hR i (by omega)
    obtain ⟨i1, i2⟩ := (wk_ok hl hL i).resolve_left i0
    obtain ⟨hji, eji⟩ := LB_ix i1 i2
    have ai := aI_e (p := 92) (i := i) hN (by decide) rfl (by rw [lnv_92]; omega)
    rw [vi] at ai
    have ce : (nI (LB T (wk T l i)).length = nI (LB T (wk T l k)).length) ↔ wk T l i = wk T l k := by
      have e : (nI (LB T (wk T l i)).length = nI (LB T (wk T l k)).length) ↔ (LB T (wk T l i)).length = (LB T (wk T l k)).length := nI_eq (by omega) (by omega)
      rw [e]
      constructor
      · intro h
        rw [← eji, ← ejk]
        simp only [h]
      · intro h
        rw [h]
    by_cases he : wk T l i = wk T l k
    · refine lp_l ?_
      unfold z_X7_ring_32
      rw [if_neg c1, r17, Option.bind_some, ai, Option.bind_some, Option.bind_some, ak, Option.bind_some, if_pos (ce.mpr he), if_pos (rg_yes (show i < k by omega) he)]
    · refine lp_r (t := nI (i + 1)) ?_ (ih fuel (i + 1) (by omega) (fun j hj => by
        by_cases hj2 : j = i
        · rw [hj2]; exact he
        · exact h j (by omega)) (by omega))
      unfold z_X7_ring_32
      rw [if_neg c1, r17, Option.bind_some, ai, Option.bind_some, Option.bind_some, ak, Option.bind_some, if_neg (fun e => he (ce.mp e)), nI_1]
theorem m_ring {M : MM} {T : TG} {sp dr l N : Nat} (L : LAY M sp dr) (hl : l < 1000) (hL : isL T l = true) (hR : ROWS M T l N (wk T l)) (hN1 : N ≤ 100) (hz : N = 100 ∨ wk T l N = 0) : ∀ d fuel k, k + d = 100 → 1 ≤ k → k ≤ N → d < fuel → lp (fun t => z_X7_ring_23 M 81 (nI N) t) fuel (nI k) = some (rr T l d k, M) := by
  intro d
  induction d with
  | zero =>
    intro fuel k hi h1 h2 hf
    obtain ⟨fuel, rfl⟩ : ∃ m, fuel = m + 1 := ⟨fuel - 1, by omega⟩
    obtain rfl : k = N := by omega
    have c1 : nI k ≤ nI k := Int32.le_refl _
    unfold lp z_X7_ring_23
    simp only [if_pos c1]
    rfl
  | succ d ih =>
    intro fuel k hi h1 h2 hf
    obtain ⟨fuel, rfl⟩ : ∃ m, fuel = m + 1 := ⟨fuel - 1, by omega⟩
    unfold lp z_X7_ring_23 rr
    by_cases hk : k = N
    · subst hk
      have c1 : nI k ≤ nI k := Int32.le_refl _
      simp only [if_pos c1]
      rw [if_pos (hz.resolve_left (by omega))]
    · have c1 : ¬ nI N ≤ nI k := fun e => by have := (nI_leI (by omega) (by omega)).mp e; omega
      have hk0 := (hR k (by omega)).1
      simp only [if_neg c1]
      rw [if_neg hk0]
      have h1 := m_ring1 (a3 := nI N) L hl hL hR hN1 (show k < N by omega) k FU 0 (by omega) (fun j hj => absurd hj (by omega)) (show k < 4000 by omega)
      rw [n00] at h1
      rw [h1]
      by_cases hr : rg T l k = true
      · rw [if_pos hr, if_pos hr]
      · rw [if_neg hr, if_neg hr]
        exact ih fuel (k + 1) (by omega) (by omega) (by omega) (by omega)
theorem eq_ring {M : MM} {T : TG} {sp dr : Nat} (I : Inv M T sp dr) (x : Int32) : ∃ r M2, f_X6_ring M 0 x = some r ∧ f_X7_ring M 81 x = some (r, M2) ∧ M2.1 = M.1 ∧ Inv M2 T sp dr := by
  obtain ⟨L, hT, hC, hM, hS, hLs, hX, hP, hI0, hI1, hJ⟩ := id I
  have hN := L.1
  obtain ⟨n, hn, x1, x2, x3⟩ := hX
  obtain ⟨k, hk, p1, p2, p3⟩ := hP
  have hst : sp = 23 ∨ sp = 52 := by rcases L.2.1 with ⟨h, -⟩ | ⟨h, -⟩ <;> omega
  obtain ⟨ks0, ks1, ks2, ks3, ks4, ks5, ks6, ks7, ks8⟩ := tkf hst
  obtain ⟨lt0, lt1, lt2, lt3⟩ := ly_t L sp hst

  rcases let_cases T x with h | ⟨j, hj, rfl⟩
  · exact ⟨-1, M, by simp [f_X6_ring, fI_e, aI_l, aZ_l, aR_l, waI_l, waZ_l, fJ_e, fR_e, wfI_e, wfZ_e, wfJ_e, wfR_e, aI_e, aZ_e, aJ_e, aR_e, waI_e, waZ_e, waJ_e, n_sI, n_sJ, n_sR, gI_sI, gI_sJ, gI_sR, gJ_sI, gJ_sJ, gJ_sR, gR_sI, gR_sJ, gR_sR, Option.bind_some, Option.map_some, kdv_0, kdv_1, kdv_2, kdv_3, kdv_4, kdv_5, kdv_6, kdv_7, kdv_8, kdv_9, kdv_10, kdv_11, kdv_12, kdv_13, kdv_14, kdv_15, kdv_16, kdv_17, kdv_18, kdv_19, kdv_20, kdv_21, kdv_22, kdv_23, kdv_24, kdv_25, kdv_26, kdv_27, kdv_28, kdv_29, kdv_30, kdv_31, kdv_32, kdv_33, kdv_34, kdv_35, kdv_36, kdv_37, kdv_38, kdv_39, kdv_40, kdv_41, kdv_42, kdv_43, kdv_44, kdv_45, kdv_46, kdv_47, kdv_48, kdv_49, kdv_50, kdv_51, kdv_52, kdv_53, kdv_54, kdv_55, kdv_56, kdv_57, kdv_58, kdv_59, kdv_60, kdv_61, kdv_62, kdv_63, kdv_64, kdv_65, kdv_66, kdv_67, kdv_68, kdv_69, kdv_70, kdv_71, kdv_72, kdv_73, kdv_74, kdv_75, kdv_76, kdv_77, kdv_78, kdv_79, kdv_80, kdv_81, kdv_82, kdv_83, kdv_84, kdv_85, kdv_86, kdv_87, kdv_88, kdv_89, kdv_90, kdv_91, kdv_92, lnv_2, lnv_4, lnv_5, lnv_6, lnv_7, lnv_8, lnv_9, lnv_10, lnv_11, lnv_12, lnv_13, lnv_14, lnv_15, lnv_17, lnv_18, lnv_20, lnv_22, lnv_24, lnv_25, lnv_53, lnv_54, lnv_82, lnv_83, lnv_84, lnv_85, lnv_86, lnv_87, lnv_88, lnv_89, lnv_90, lnv_91, lnv_92, hN, (ly_0_0 L), (ly_0_1 L), (ly_0_2 L), (ly_0_3 L), (ly_0_4 L), (ly_0_5 L), (ly_1_0 L), (ly_3_0 L), (ly_3_1 L), (ly_3_2 L), (ly_3_3 L), (ly_3_4 L), (ly_3_5 L), (ly_3_6 L), (ly_3_7 L), (ly_3_8 L), (ly_3_10 L), (ly_3_11 L), (ly_3_12 L), (ly_16_0 L), (ly_18_0 L), (ly_18_1 L), (ly_19_0 L), (ly_21_0 L), (ly_81_1 L), (ly_81_3 L), (ly_81_4 L), (ly_81_5 L), (ly_81_6 L), (ly_81_7 L), (ly_81_8 L), (ly_81_9 L), (ly_81_10 L), (ly_81_11 L), (ly_81_17 L), c_can_no L hS h], by simp [f_X7_ring, hN, kdv_81, m_place_no L hLs h], rfl, I⟩
  · have hlen := Lt_819 (T := T)
    obtain ⟨hl, hLj⟩ := Lt_at hj
    have hc := c_can L hS hl
    rw [hLj] at hc
    have hp := m_place_at L hLs hj
    have hnm : ¬ nI j = -9 := nI_nm (by omega) (by decide)
    have hb1 : b2i true = 1 := rfl
    rw [hb1] at hc
    obtain ⟨N, M', q1, q2, q3, q4, q5, q6⟩ := m_lays L hT hLs hj
    have L' := L.ag q6
    have I' := I.ag92 q6
    have hl0 : ¬ wk T (Lt T)[j] 0 = 0 := fun e => by
      have e2 : (Lt T)[j] = 0 := e
      rw [e2, not_L0] at hLj
      cases hLj
    have hcr : f_X1_stepsToRing M 3 (nI (Lt T)[j]) = some (rr T (Lt T)[j] 99 1) := by
      unfold f_X1_stepsToRing
      rw [if_pos (by rw [hN]; decide)]
      exact c_ring L hS hl hLj 99 FU 0 (by omega) hl0 (show 99 < 4000 by omega)
    refine ⟨rr T (Lt T)[j] 99 1, M', by simp [f_X6_ring, fI_e, aI_l, aZ_l, aR_l, waI_l, waZ_l, fJ_e, fR_e, wfI_e, wfZ_e, wfJ_e, wfR_e, aI_e, aZ_e, aJ_e, aR_e, waI_e, waZ_e, waJ_e, n_sI, n_sJ, n_sR, gI_sI, gI_sJ, gI_sR, gJ_sI, gJ_sJ, gJ_sR, gR_sI, gR_sJ, gR_sR, Option.bind_some, Option.map_some, kdv_0, kdv_1, kdv_2, kdv_3, kdv_4, kdv_5, kdv_6, kdv_7, kdv_8, kdv_9, kdv_10, kdv_11, kdv_12, kdv_13, kdv_14, kdv_15, kdv_16, kdv_17, kdv_18, kdv_19, kdv_20, kdv_21, kdv_22, kdv_23, kdv_24, kdv_25, kdv_26, kdv_27, kdv_28, kdv_29, kdv_30, kdv_31, kdv_32, kdv_33, kdv_34, kdv_35, kdv_36, kdv_37, kdv_38, kdv_39, kdv_40, kdv_41, kdv_42, kdv_43, kdv_44, kdv_45, kdv_46, kdv_47, kdv_48, kdv_49, kdv_50, kdv_51, kdv_52, kdv_53, kdv_54, kdv_55, kdv_56, kdv_57, kdv_58, kdv_59, kdv_60, kdv_61, kdv_62, kdv_63, kdv_64, kdv_65, kdv_66, kdv_67, kdv_68, kdv_69, kdv_70, kdv_71, kdv_72, kdv_73, kdv_74, kdv_75, kdv_76, kdv_77, kdv_78, kdv_79, kdv_80, kdv_81, kdv_82, kdv_83, kdv_84, kdv_85, kdv_86, kdv_87, kdv_88, kdv_89, kdv_90, kdv_91, kdv_92, lnv_2, lnv_4, lnv_5, lnv_6, lnv_7, lnv_8, lnv_9, lnv_10, lnv_11, lnv_12, lnv_13, lnv_14, lnv_15, lnv_17, lnv_18, lnv_20, lnv_22, lnv_24, lnv_25, lnv_53, lnv_54, lnv_82, lnv_83, lnv_84, lnv_85, lnv_86, lnv_87, lnv_88, lnv_89, lnv_90, lnv_91, lnv_92, hN, (ly_0_0 L), (ly_0_1 L), (ly_0_2 L), (ly_0_3 L), (ly_0_4 L), (ly_0_5 L), (ly_1_0 L), (ly_3_0 L), (ly_3_1 L), (ly_3_2 L), (ly_3_3 L), (ly_3_4 L), (ly_3_5 L), (ly_3_6 L), (ly_3_7 L), (ly_3_8 L), (ly_3_10 L), (ly_3_11 L), (ly_3_12 L), (ly_16_0 L), (ly_18_0 L), (ly_18_1 L), (ly_19_0 L), (ly_21_0 L), (ly_81_1 L), (ly_81_3 L), (ly_81_4 L), (ly_81_5 L), (ly_81_6 L), (ly_81_7 L), (ly_81_8 L), (ly_81_9 L), (ly_81_10 L), (ly_81_11 L), (ly_81_17 L), hc, hcr], ?_, q6.1, I'⟩
    have g : 81 < M.1 ∧ kd 81 = 7 := by rw [hN]; decide
    unfold f_X7_ring
    rw [if_pos g, hp, Option.bind_some, if_neg hnm, q1, Option.bind_some, if_pos q6.1]
    exact m_ring L' hl hLj q4 q3 q5 99 FU 1 (by omega) (by omega) q2 (show 99 < 4000 by omega)
