/-! PURE: fillRow -/
def RVA (M : MM) (T : TG) (x : Nat) (A : List Nat) : Prop := gI M 5 x = nI (rowN (A.map fun d => tKn T (d - 1))) ∧ gI M 6 x = nI (A.map fun d => tOw T (d - 1)).sum ∧ gI M 7 x = nI (A.map fun d => tOt T (d - 1)).sum ∧ gI M 8 x = nI (A.map fun d => tWl T (d - 1)).sum ∧ gJ M 9 x = lN (pk 8 fun s => (A.map fun d => cw T (d - 1) s).sum) ∧ gI M 10 x = nI (stF fun s => (A.map fun d => cw T (d - 1) s).sum)
theorem RVA.agg {M M' : MM} {P : Nat → Nat → Prop} {T : TG} {x : Nat} {A : List Nat} (h : RVA M T x A) (a : AgG M M' P) (hd : ∀ p, ¬ P p x) : RVA M' T x A := by
  have e : ∀ p, gI M' p x = gI M p x := fun p => a.2.2.2 p x (hd p)
  have e2 : gJ M' 9 x = gJ M 9 x := a.2.2.1 9 x (hd 9)
  unfold RVA at h ⊢
  simp only [e, e2]
  exact h
theorem stF_0 {T : TG} {w : Nat} {f : Nat → Nat} : stF (fun s => f s + cwU T w 0 s) = stF f := pk_ext (fun s _ => by simp [cwU])
theorem c_59 {M : MM} {T : TG} {sp dr t l a w : Nat} {A : List Nat} (L : LAY M sp dr) (ht : t = 23 ∨ t = 52) (hT : TOK T) (hC : CTg M t T) (hl : l < 1000) (ha : a < 1000) (hal : ¬ a = l) (hw : w < tNw T) (hv : RVA M T a A) (hd : dg l = A ++ [w + 1]) (hr : isRow T l = true) (g4 : gI M 4 l = 0) : ∃ M', j_X1_fillRow_59 M 3 (nI l) t (nI a) (nI w) 1 = some M' ∧ AgG M M' (PF l) ∧ gI M' 4 l = b2i (isL T l) ∧ RVA M' T l (dg l) := by
  have hw9 := hT.1
  have hs4 := hT.2.1
  have hl5 := (hT.2.2.1 w hw).2.1
  obtain ⟨h5, h6, h7, h8, h9, h10⟩ := hv
  obtain ⟨v1, v2, v3, v4, v5⟩ := hC.2.2.1 w hw
  obtain ⟨u1, u2, -, -, -⟩ := tw_r (w := w) L ht (by omega)
  have st : ∀ N, AgG M N (PF l) → LAY N sp dr ∧ (∀ k, fI N (t + 3 + 2 * w) 5 k = some (gI M (t + 3 + 2 * w) k)) ∧ (∀ p, R3 p → aI N p (nI a) = some (gI M p a)) ∧ aJ N 9 (nI a) = some (gJ M 9 a) := fun N hA =>
    have LN := L.agg hA
    ⟨LN, fun k => by rw [(tw_r (w := w) LN ht (by omega)).2.2.2.1 k, hA.2.2.2 _ _ (fun q => by unfold PF at q; omega)], fun p hp => by rw [ai3 LN hp ha, hA.2.2.2 _ _ (fun q => hal q.2.2)], by rw [aj9 LN ha, hA.2.2.1 _ _ (fun q => hal q.2.2)]⟩
  have eL : ∀ x y, f_X2_lengthened M x y = some (x * 4 + y + 1) := fun _ _ => rfl
  have e5 : nI (rowN (A.map fun d => tKn T (d - 1))) * 4 + nI (tKn T w) + 1 = nI (rowN ((A ++ [w + 1]).map fun d => tKn T (d - 1))) := by
    rw [List.map_append, List.map_cons, List.map_nil, rowN_app, show (4 : Int32) = nI 4 from rfl, nI_mul, nI_add]
    exact nI_1 _
  have e6 : nI (A.map fun d => tOw T (d - 1)).sum + nI (tOw T w) = nI ((A ++ [w + 1]).map fun d => tOw T (d - 1)).sum := by
    rw [nI_add, sum_t]
    rfl
  have e7 : nI (A.map fun d => tOt T (d - 1)).sum + nI (tOt T w) = nI ((A ++ [w + 1]).map fun d => tOt T (d - 1)).sum := by
    rw [nI_add, sum_t]
    rfl
  have e8 : nI (A.map fun d => tWl T (d - 1)).sum + nI (tWl T w) = nI ((A ++ [w + 1]).map fun d => tWl T (d - 1)).sum := by
    rw [nI_add, sum_t]
    rfl
  obtain ⟨N1, n1⟩ : ∃ N, N = sI M 5 l (nI (rowN ((A ++ [w + 1]).map fun d => tKn T (d - 1)))) := ⟨_, rfl⟩
  have A1 : AgG M N1 (PF l) := by rw [n1]; exact AgG.rf.sI ⟨by decide, by decide, rfl⟩
  obtain ⟨N2, n2⟩ : ∃ N, N = sI N1 6 l (nI ((A ++ [w + 1]).map fun d => tOw T (d - 1)).sum) := ⟨_, rfl⟩
  have A2 : AgG M N2 (PF l) := by rw [n2]; exact A1.sI ⟨by decide, by decide, rfl⟩
  obtain ⟨N3, n3⟩ : ∃ N, N = sI N2 7 l (nI ((A ++ [w + 1]).map fun d => tOt T (d - 1)).sum) := ⟨_, rfl⟩
  have A3 : AgG M N3 (PF l) := by rw [n3]; exact A2.sI ⟨by decide, by decide, rfl⟩
  obtain ⟨N4, n4⟩ : ∃ N, N = sI N3 8 l (nI ((A ++ [w + 1]).map fun d => tWl T (d - 1)).sum) := ⟨_, rfl⟩
  have A4 : AgG M N4 (PF l) := by rw [n4]; exact A3.sI ⟨by decide, by decide, rfl⟩
  obtain ⟨N5, n5⟩ : ∃ N, N = sJ N4 9 l (lN (pk 8 fun s => (A.map fun d => cw T (d - 1) s).sum)) := ⟨_, rfl⟩
  have A5 : AgG M N5 (PF l) := by rw [n5]; exact A4.sJ ⟨by decide, by decide, rfl⟩
  obtain ⟨N6, n6⟩ : ∃ N, N = sI N5 10 l (nI (stF fun s => (A.map fun d => cw T (d - 1) s).sum)) := ⟨_, rfl⟩
  have A6 : AgG M N6 (PF l) := by rw [n6]; exact A5.sI ⟨by decide, by decide, rfl⟩
  have s0 := st M AgG.rf
  have s1 := st N1 A1
  have s2 := st N2 A2
  have s3 := st N3 A3
  have s4 := st N4 A4
  have s5 := st N5 A5
  have L6 := L.agg A6
  have k5 : gI N6 5 l = nI (rowN ((A ++ [w + 1]).map fun d => tKn T (d - 1))) := by rw [n6, gp_cell (by decide), n5, gI_sJ, n4, gp_cell (by decide), n3, gp_cell (by decide), n2, gp_cell (by decide), n1, gp_same]
  have k6 : gI N6 6 l = nI ((A ++ [w + 1]).map fun d => tOw T (d - 1)).sum := by rw [n6, gp_cell (by decide), n5, gI_sJ, n4, gp_cell (by decide), n3, gp_cell (by decide), n2, gp_same]
  have k7 : gI N6 7 l = nI ((A ++ [w + 1]).map fun d => tOt T (d - 1)).sum := by rw [n6, gp_cell (by decide), n5, gI_sJ, n4, gp_cell (by decide), n3, gp_same]
  have k8 : gI N6 8 l = nI ((A ++ [w + 1]).map fun d => tWl T (d - 1)).sum := by rw [n6, gp_cell (by decide), n5, gI_sJ, n4, gp_same]
  have k9 : gJ N6 9 l = lN ((pk 8 fun s => (A.map fun d => cw T (d - 1) s).sum) + pk 8 (cwU T w 0)) := by rw [n6, gJ_sI, n5, gJ_same, pkU0, Nat.add_zero]
  have k10 : gI N6 10 l = nI (stF fun s => (A.map fun d => cw T (d - 1) s).sum + cwU T w 0 s) := by rw [n6, gp_same, stF_0]
  have k4 : gI N6 4 l = 0 := by rw [n6, gp_cell (by decide), n5, gI_sJ, n4, gp_cell (by decide), n3, gp_cell (by decide), n2, gp_cell (by decide), n1, gp_cell (by decide)]; exact g4
  obtain ⟨M1, f1, a1, p9, p10⟩ := c_177 ht hT hl hw (tWl T w) FU 0 N6 (by omega) (show tWl T w < 4000 by omega) L6 (hC.agg A6 ⟨hw9, hs4⟩ (PF.tg ht)) k9 k10
  have L1 := L6.agg a1
  have n9 : ∀ p, ¬ p = 9 → ¬ p = 10 → gI M1 p l = gI N6 p l := fun p h9 h10 => a1.2.2.2 p l (fun q => by omega)
  obtain ⟨M2, f2, a2, p4⟩ := c_237 ht hT hl hr (tNs T) FU 0 M1 (by omega) (show tNs T < 4000 by omega) L1 ((hC.agg A6 ⟨hw9, hs4⟩ (PF.tg ht)).agg a1 ⟨hw9, hs4⟩ (fun p j h1 _ q => by omega)) (by rw [n9 5 (by decide) (by decide), k5]; unfold kinds; rw [hd]) (by rw [n9 4 (by decide) (by decide), k4]; rfl)
  have m4 : ∀ p, ¬ p = 4 → gI M2 p l = gI M1 p l := fun p h => a2.2.2.2 p l (fun q => h q.1)
  refine ⟨M2, ?_, (A6.tr (a1.mono (fun p j h => by unfold PF; omega))).tr (a2.mono (fun p j h => by unfold PF; omega)), by rw [p4, isL_shU hr], ?_⟩
  · unfold j_X1_fillRow_59
    rw [if_neg (show ¬ (1 : Int32) = 0 by decide), u1, Option.bind_some, u2, Option.bind_some, q5 L, Option.bind_some, Option.bind_some, s0.2.2.1 5 R5, Option.bind_some, h5, s0.2.1 2, Option.bind_some, v2, eL, Option.bind_some, e5, wi3 L R5 hl, Option.bind_some, ← n1]
    rw [q6 s1.1, Option.bind_some, Option.bind_some, s1.2.2.1 6 R6, Option.bind_some, h6, s1.2.1 3, Option.bind_some, v3, e6, wi3 s1.1 R6 hl, Option.bind_some, ← n2]
    rw [q7 s2.1, Option.bind_some, Option.bind_some, s2.2.2.1 7 R7, Option.bind_some, h7, s2.2.1 4, Option.bind_some, v4, e7, wi3 s2.1 R7 hl, Option.bind_some, ← n3]
    rw [q8 s3.1, Option.bind_some, Option.bind_some, s3.2.2.1 8 R8, Option.bind_some, h8, s3.2.1 1, Option.bind_some, v1, e8, wi3 s3.1 R8 hl, Option.bind_some, ← n4]
    rw [q9 s4.1, Option.bind_some, Option.bind_some, s4.2.2.2, Option.bind_some, h9, wj9 s4.1 hl, Option.bind_some, ← n5]
    rw [q10 s5.1, Option.bind_some, Option.bind_some, s5.2.2.1 10 R10, Option.bind_some, h10, wi3 s5.1 R10 hl, Option.bind_some, ← n6]
    exact f1.trans f2
  · rw [hd]
    refine ⟨by rw [m4 5 (by decide), n9 5 (by decide) (by decide), k5], by rw [m4 6 (by decide), n9 6 (by decide) (by decide), k6], by rw [m4 7 (by decide), n9 7 (by decide) (by decide), k7], by rw [m4 8 (by decide), n9 8 (by decide) (by decide), k8], ?_, ?_⟩
    · rw [a2.2.2.1 9 l (fun q => absurd q.1 (by decide)), p9, ← pk8_add]
      refine congrArg lN (pk_ext (fun s _ => ?_))
      simp only [sum_t, Nat.add_sub_cancel]
    · rw [m4 10 (by decide), p10]
      refine congrArg nI (pk_ext (fun s _ => ?_))
      simp only [sum_t, Nat.add_sub_cancel]
theorem rowN_pos {T : TG} {a : Nat} (ha : a < 1000) : 1 ≤ rowN (kinds T a) := by
  unfold kinds
  by_cases h : a < 10
  · rw [dg_one h]
    simp [rowN]
  · rw [dg_more (by omega) ha, List.map_append, List.map_cons, List.map_nil, rowN_app]
    omega
theorem not_isL {T : TG} {l : Nat} (h : isRow T l = false) : isL T l = false := by
  unfold isL
  rw [h]
  rfl
theorem c_fillRow {M : MM} {T : TG} {sp dr t l : Nat} (L : LAY M sp dr) (ht : t = 23 ∨ t = 52) (hT : TOK T) (hC : CTg M t T) (h1 : 1 ≤ l) (hl : l < 1000) (h0 : RVA M T 0 []) (ha : 10 ≤ l → (isRow T (l / 10) = true → RVA M T (l / 10) (dg (l / 10))) ∧ (isRow T (l / 10) = false → gI M 5 (l / 10) = 0)) : ∃ M', f_X1_fillRow M 3 (nI l) t = some M' ∧ AgG M M' (PF l) ∧ gI M' 4 l = b2i (isL T l) ∧ (isRow T l = true → RVA M' T l (dg l)) ∧ (isRow T l = false → gI M' 5 l = 0) := by
  have hw9 := hT.1
  have hs4 := hT.2.1
  have key : ∃ (A : List Nat) (ok : Bool), dg l = A ++ [l % 10] ∧ (ok = true → RVA M T (l / 10) A) ∧ isRow T l = (ok && decide (1 ≤ l % 10 ∧ l % 10 ≤ tNw T)) ∧ ((l / 10 = 0 ∧ ok = true) ∨ (¬ l / 10 = 0 ∧ (gI M 5 (l / 10) = 0 ↔ ok = false))) := by
    by_cases h10 : l < 10
    · refine ⟨[], true, ?_, fun _ => ?_, ?_, Or.inl ⟨by omega, rfl⟩⟩
      · rw [dg_one h10, Nat.mod_eq_of_lt h10]
        rfl
      · rw [show l / 10 = 0 by omega]
        exact h0
      · unfold isRow
        rw [dg_one h10, Nat.mod_eq_of_lt h10]
        simp
    · have hdg := dg_more (l := l) (by omega) hl
      have hh := ha (by omega)
      refine ⟨dg (l / 10), isRow T (l / 10), hdg, hh.1, ?_, Or.inr ⟨by omega, ?_⟩⟩
      · unfold isRow
        rw [hdg, List.all_append]
        simp
      · cases hrw : isRow T (l / 10) with
        | false => exact ⟨fun _ => rfl, fun _ => hh.2 hrw⟩
        | true =>
          have h5 : gI M 5 (l / 10) = nI (rowN (kinds T (l / 10))) := (hh.1 hrw).1
          have b1 : rowN (kinds T (l / 10)) ≤ 63 := rowN_le (kinds_lt hT hrw) (by rw [kinds_len]; exact dg_len)
          have b2 := rowN_pos (T := T) (a := l / 10) (by omega)
          refine ⟨fun e => ?_, fun e => by cases e⟩
          rw [h5] at e
          have := (nI_eq (b := 0) (by omega) (by decide)).mp e
          omega
  obtain ⟨A, ok, hd, hv, hri, hcond⟩ := key
  have A4 : AgG M (sI (sI M 4 l 0) 5 l 0) (PF l) := (AgG.rf.sI ⟨by decide, by decide, rfl⟩).sI ⟨by decide, by decide, rfl⟩
  have g4 : gI (sI (sI M 4 l 0) 5 l 0) 4 l = 0 := by rw [gp_cell (by decide), gp_same]
  have g5 : gI (sI (sI M 4 l 0) 5 l 0) 5 l = 0 := gp_same
  have e1 : nI l - nI l / 10 * 10 = nI (l % 10) := pk_rem (d := 10) (by omega) (by decide) (by decide)
  have e2 : nI l / 10 = nI (l / 10) := pk_div (d := 10) (by omega) (by decide) (by decide)
  have hf : f_X1_fillRow M 3 (nI l) t = (if nI (l % 10) - 1 < 0 then j_X1_fillRow_58 (sI (sI M 4 l 0) 5 l 0) 3 (nI l) t (nI (l / 10)) (nI (l % 10) - 1) else ((fI (sI (sI M 4 l 0) 5 l 0) t 4 2).bind fun v5 => if v5 ≤ nI (l % 10) - 1 then j_X1_fillRow_58 (sI (sI M 4 l 0) 5 l 0) 3 (nI l) t (nI (l / 10)) (nI (l % 10) - 1) else if nI (l / 10) = 0 then j_X1_fillRow_54 (sI (sI M 4 l 0) 5 l 0) 3 (nI l) t (nI (l / 10)) (nI (l % 10) - 1) else ((fR (sI (sI M 4 l 0) 5 l 0) 3 1 1).bind fun v6 => (aI (sI (sI M 4 l 0) 5 l 0) v6 (nI (l / 10))).bind fun v7 => if v7 = 0 then j_X1_fillRow_58 (sI (sI M 4 l 0) 5 l 0) 3 (nI l) t (nI (l / 10)) (nI (l % 10) - 1) else j_X1_fillRow_54 (sI (sI M 4 l 0) 5 l 0) 3 (nI l) t (nI (l / 10)) (nI (l % 10) - 1)))) := by
    unfold f_X1_fillRow
    rw [if_pos (r3m L), q4 L, Option.bind_some, wz4 L hl (Or.inl rfl), Option.bind_some, q5 L.si, Option.bind_some, wi3 L.si R5 hl, Option.bind_some, e1, e2]
  generalize sI (sI M 4 l 0) 5 l 0 = N at A4 g4 g5 hf
  have LN := L.agg A4
  have h58 : ∀ x y, j_X1_fillRow_58 N 3 (nI l) t x y = some N := by
    intro x y
    unfold j_X1_fillRow_58 j_X1_fillRow_59
    rw [if_pos rfl]
  have fin : isRow T l = false → f_X1_fillRow M 3 (nI l) t = some N → ∃ M', f_X1_fillRow M 3 (nI l) t = some M' ∧ AgG M M' (PF l) ∧ gI M' 4 l = b2i (isL T l) ∧ (isRow T l = true → RVA M' T l (dg l)) ∧ (isRow T l = false → gI M' 5 l = 0) := fun h e => ⟨N, e, A4, by rw [g4, not_isL h]; rfl, fun q => absurd q (by rw [h]; decide), fun _ => g5⟩
  by_cases hz : l % 10 = 0
  · refine fin (by rw [hri, decide_eq_false (by omega), Bool.and_false]) ?_
    rw [hf, hz, if_pos (by decide), h58]
  · obtain ⟨w, hw⟩ : ∃ w, l % 10 = w + 1 := ⟨l % 10 - 1, by omega⟩
    rw [hw] at hd hri
    have fN : fI N t 4 2 = some (nI (tNw T)) := by rw [tg_f LN ht, A4.2.2.2 t 2 (PF.tg ht t 2 (Nat.le_refl _) (by omega)), hC.1]
    rw [hw, nI_pred, if_neg (nI_pos (by omega)), fN, Option.bind_some] at hf
    by_cases hwn : w < tNw T
    · rw [if_neg (fun e => by have := (nI_leI (by omega) (by omega)).mp e; omega)] at hf
      have hdec : decide (1 ≤ w + 1 ∧ w + 1 ≤ tNw T) = true := decide_eq_true (by omega)
      have fin2 : ok = true → f_X1_fillRow M 3 (nI l) t = j_X1_fillRow_54 N 3 (nI l) t (nI (l / 10)) (nI w) → ∃ M', f_X1_fillRow M 3 (nI l) t = some M' ∧ AgG M M' (PF l) ∧ gI M' 4 l = b2i (isL T l) ∧ (isRow T l = true → RVA M' T l (dg l)) ∧ (isRow T l = false → gI M' 5 l = 0) := by
        intro hok e
        have hr : isRow T l = true := by rw [hri, hok, hdec]; rfl
        obtain ⟨M', f', a', k4, kv⟩ := c_59 LN ht hT (hC.agg A4 ⟨hw9, hs4⟩ (PF.tg ht)) hl (a := l / 10) (by omega) (by omega) hwn ((hv hok).agg A4 (fun p q => by unfold PF at q; omega)) hd hr g4
        refine ⟨M', ?_, A4.tr a', k4, fun _ => kv, fun q => absurd q (by rw [hr]; decide)⟩
        rw [e]
        exact f'
      rcases hcond with ⟨z, hok⟩ | ⟨z, hiff⟩
      · rw [if_pos (show nI (l / 10) = 0 by rw [z]; rfl)] at hf
        exact fin2 hok hf
      · rw [if_neg (show ¬ nI (l / 10) = 0 from fun e => z ((nI_eq (b := 0) (by omega) (by decide)).mp e)), q5 LN, Option.bind_some, ai3 LN R5 (by omega), Option.bind_some, A4.2.2.2 5 (l / 10) (fun q => by unfold PF at q; omega)] at hf
        cases hok : ok with
        | false =>
          rw [if_pos (hiff.mpr hok), h58] at hf
          exact fin (by rw [hri, hok]; rfl) hf
        | true =>
          rw [if_neg (fun e => by rw [hiff.mp e] at hok; cases hok)] at hf
          exact fin2 hok hf
    · rw [if_pos ((nI_leI (by omega) (by omega)).mpr (by omega)), h58] at hf
      exact fin (by rw [hri, decide_eq_false (by omega), Bool.and_false]) hf
