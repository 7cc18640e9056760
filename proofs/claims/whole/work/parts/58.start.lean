/-! PURE: the start, both sides -/
theorem start6 : ∃ M, f_X6_init 81 (nP M0) 0 = some M ∧ ZM M ∧ chk M = true := by
  have h := init6
  cases e : f_X6_init 81 (nP M0) 0 with
  | none =>
    rw [e] at h
    cases h
  | some M =>
    rw [e, Option.map_some] at h
    injection h with h
    exact ⟨M, rfl, z_X6 (zm_nP zm_0) M e, h⟩
theorem al_s {M : MM} {c j n : Nat} {i : Int32} (hn : M.1 = n) (hk : kd n = c) (hi : ¬ i < 0 ∧ i.toNatClampNeg = ln n) (h93 : 82 ≤ n ∧ n < 93) : ∃ N : MM, (∀ f : MM → Option MM, ((nArr M 93 c i).bind fun M1 => (wfR M1 81 7 j M.1).bind f) = f N) ∧ N.1 = n + 1 ∧ (∀ p q, ¬ (p = 81 ∧ q = j) → p < n → gR N p q = gR M p q) ∧ gR N 81 j = some n ∧ (ZM M → ZM N) := by
  refine ⟨sR (nP M) 81 j (some n), fun f => ?_, by show M.1 + 1 = n + 1; rw [hn], fun p q h hp => ?_, by rw [gR_sR, if_pos ⟨rfl, rfl⟩], fun h => zm_sR (zm_nP h)⟩
  · have e1 : nArr M 93 c i = some (nP M) := by
      unfold nArr
      rw [if_pos ⟨by rw [hn]; exact hk, hi.1, by rw [hn]; exact hi.2, by omega⟩]
    have e2 : wfR (nP M) 81 7 j M.1 = some (sR (nP M) 81 j (some n)) := by
      unfold wfR
      rw [if_pos ⟨show 81 < M.1 + 1 by omega, by decide, show M.1 < M.1 + 1 by omega⟩, hn]
    rw [e1, Option.bind_some, e2, Option.bind_some]
  · rw [gR_sR, if_neg h]
    show (if p = M.1 then none else gR M p q) = gR M p q
    rw [if_neg (by omega)]
theorem isR0 {l : Nat} : isRow T0 l = false := by
  have hf : (fun d => decide (1 ≤ d ∧ d ≤ tNw T0)) = fun _ => false := by
    funext d
    exact decide_eq_false (show ¬ (1 ≤ d ∧ d ≤ 0) by omega)
  unfold isRow
  rw [hf]
  unfold dg
  split
  · rfl
  · split
    · rfl
    · rfl
theorem Lt0 : Lt T0 = [] := by
  rw [Lt_eq]
  exact List.filter_eq_nil_iff.mpr (fun l _ => by rw [not_isL isR0]; decide)
theorem start7 {M : MM} (hz : ZM M) (hc : chk M = true) : ∃ M', f_X7_init 93 (nP M) 81 = some M' ∧ M'.1 = 93 ∧ Inv M' T0 23 52 := by
  unfold chk at hc
  rw [Bool.and_eq_true, Bool.and_eq_true] at hc
  obtain ⟨⟨hc1, hc2⟩, hc3⟩ := hc
  have m1 : M.1 = 81 := of_decide_eq_true hc1
  have cg : ∀ x : Nat × Nat × Nat, x ∈ ([(0, 0, 1), (0, 1, 3), (0, 2, 16), (0, 3, 18), (0, 4, 23), (0, 5, 52), (1, 0, 2), (3, 0, 4), (3, 1, 5), (3, 2, 6), (3, 3, 7), (3, 4, 8), (3, 5, 9), (3, 6, 10), (3, 7, 11), (3, 8, 12), (3, 10, 13), (3, 11, 14), (3, 12, 15), (16, 0, 17), (18, 0, 19), (18, 1, 21), (19, 0, 20), (21, 0, 22)] : List (Nat × Nat × Nat)) → gR M x.1 x.2.1 = some x.2.2 := fun x hx => of_decide_eq_true (List.all_eq_true.mp hc2 x hx)
  have n0 : (nP M).1 = 82 := by show M.1 + 1 = 82; rw [m1]
  obtain ⟨N1, f1, n1, k1, g1, z1⟩ := al_s (M := (nP M)) (c := 8) (j := 1) (n := 82) (i := 200) n0 (by decide) (by decide) (by decide)
  obtain ⟨N2, f2, n2, k2, g2, z2⟩ := al_s (M := N1) (c := 8) (j := 3) (n := 83) (i := 110) n1 (by decide) (by decide) (by decide)
  obtain ⟨N3, f3, n3, k3, g3, z3⟩ := al_s (M := N2) (c := 8) (j := 4) (n := 84) (i := 110) n2 (by decide) (by decide) (by decide)
  obtain ⟨N4, f4, n4, k4, g4, z4⟩ := al_s (M := N3) (c := 8) (j := 5) (n := 85) (i := 13) n3 (by decide) (by decide) (by decide)
  obtain ⟨N5, f5, n5, k5, g5, z5⟩ := al_s (M := N4) (c := 8) (j := 6) (n := 86) (i := 26) n4 (by decide) (by decide) (by decide)
  obtain ⟨N6, f6, n6, k6, g6, z6⟩ := al_s (M := N5) (c := 10) (j := 7) (n := 87) (i := 2) n5 (by decide) (by decide) (by decide)
  obtain ⟨N7, f7, n7, k7, g7, z7⟩ := al_s (M := N6) (c := 8) (j := 8) (n := 88) (i := 820) n6 (by decide) (by decide) (by decide)
  obtain ⟨N8, f8, n8, k8, g8, z8⟩ := al_s (M := N7) (c := 8) (j := 9) (n := 89) (i := 820) n7 (by decide) (by decide) (by decide)
  obtain ⟨N9, f9, n9, k9, g9, z9⟩ := al_s (M := N8) (c := 8) (j := 10) (n := 90) (i := 820) n8 (by decide) (by decide) (by decide)
  obtain ⟨N10, f10, n10, k10, g10, z10⟩ := al_s (M := N9) (c := 8) (j := 11) (n := 91) (i := 820) n9 (by decide) (by decide) (by decide)
  obtain ⟨N11, f11, n11, k11, g11, z11⟩ := al_s (M := N10) (c := 8) (j := 17) (n := 92) (i := 100) n10 (by decide) (by decide) (by decide)
  have y_1 : gR N11 81 1 = some 82 := by rw [k11 81 1 (by decide) (by decide), k10 81 1 (by decide) (by decide), k9 81 1 (by decide) (by decide), k8 81 1 (by decide) (by decide), k7 81 1 (by decide) (by decide), k6 81 1 (by decide) (by decide), k5 81 1 (by decide) (by decide), k4 81 1 (by decide) (by decide), k3 81 1 (by decide) (by decide), k2 81 1 (by decide) (by decide), g1]
  have y_3 : gR N11 81 3 = some 83 := by rw [k11 81 3 (by decide) (by decide), k10 81 3 (by decide) (by decide), k9 81 3 (by decide) (by decide), k8 81 3 (by decide) (by decide), k7 81 3 (by decide) (by decide), k6 81 3 (by decide) (by decide), k5 81 3 (by decide) (by decide), k4 81 3 (by decide) (by decide), k3 81 3 (by decide) (by decide), g2]
  have y_4 : gR N11 81 4 = some 84 := by rw [k11 81 4 (by decide) (by decide), k10 81 4 (by decide) (by decide), k9 81 4 (by decide) (by decide), k8 81 4 (by decide) (by decide), k7 81 4 (by decide) (by decide), k6 81 4 (by decide) (by decide), k5 81 4 (by decide) (by decide), k4 81 4 (by decide) (by decide), g3]
  have y_5 : gR N11 81 5 = some 85 := by rw [k11 81 5 (by decide) (by decide), k10 81 5 (by decide) (by decide), k9 81 5 (by decide) (by decide), k8 81 5 (by decide) (by decide), k7 81 5 (by decide) (by decide), k6 81 5 (by decide) (by decide), k5 81 5 (by decide) (by decide), g4]
  have y_6 : gR N11 81 6 = some 86 := by rw [k11 81 6 (by decide) (by decide), k10 81 6 (by decide) (by decide), k9 81 6 (by decide) (by decide), k8 81 6 (by decide) (by decide), k7 81 6 (by decide) (by decide), k6 81 6 (by decide) (by decide), g5]
  have y_7 : gR N11 81 7 = some 87 := by rw [k11 81 7 (by decide) (by decide), k10 81 7 (by decide) (by decide), k9 81 7 (by decide) (by decide), k8 81 7 (by decide) (by decide), k7 81 7 (by decide) (by decide), g6]
  have y_8 : gR N11 81 8 = some 88 := by rw [k11 81 8 (by decide) (by decide), k10 81 8 (by decide) (by decide), k9 81 8 (by decide) (by decide), k8 81 8 (by decide) (by decide), g7]
  have y_9 : gR N11 81 9 = some 89 := by rw [k11 81 9 (by decide) (by decide), k10 81 9 (by decide) (by decide), k9 81 9 (by decide) (by decide), g8]
  have y_10 : gR N11 81 10 = some 90 := by rw [k11 81 10 (by decide) (by decide), k10 81 10 (by decide) (by decide), g9]
  have y_11 : gR N11 81 11 = some 91 := by rw [k11 81 11 (by decide) (by decide), g10]
  have y_17 : gR N11 81 17 = some 92 := by rw [g11]

  have kk : ∀ p q, p < 81 → gR N11 p q = gR M p q := fun p q hp => by
    rw [k11 p q (by omega) (by omega), k10 p q (by omega) (by omega), k9 p q (by omega) (by omega), k8 p q (by omega) (by omega), k7 p q (by omega) (by omega), k6 p q (by omega) (by omega), k5 p q (by omega) (by omega), k4 p q (by omega) (by omega), k3 p q (by omega) (by omega), k2 p q (by omega) (by omega), k1 p q (by omega) (by omega)]
    show (if p = M.1 then none else gR M p q) = gR M p q
    rw [if_neg (by omega)]
  have LN : LAY N11 23 52 := by
    refine ⟨n11, Or.inl ⟨rfl, rfl⟩, (kk 0 0 (by decide)).trans (cg (0, 0, 1) (by decide)), (kk 0 1 (by decide)).trans (cg (0, 1, 3) (by decide)), (kk 0 2 (by decide)).trans (cg (0, 2, 16) (by decide)), (kk 0 3 (by decide)).trans (cg (0, 3, 18) (by decide)), (kk 0 4 (by decide)).trans (cg (0, 4, 23) (by decide)), (kk 0 5 (by decide)).trans (cg (0, 5, 52) (by decide)), (kk 1 0 (by decide)).trans (cg (1, 0, 2) (by decide)), (kk 3 0 (by decide)).trans (cg (3, 0, 4) (by decide)), (kk 3 1 (by decide)).trans (cg (3, 1, 5) (by decide)), (kk 3 2 (by decide)).trans (cg (3, 2, 6) (by decide)), (kk 3 3 (by decide)).trans (cg (3, 3, 7) (by decide)), (kk 3 4 (by decide)).trans (cg (3, 4, 8) (by decide)), (kk 3 5 (by decide)).trans (cg (3, 5, 9) (by decide)), (kk 3 6 (by decide)).trans (cg (3, 6, 10) (by decide)), (kk 3 7 (by decide)).trans (cg (3, 7, 11) (by decide)), (kk 3 8 (by decide)).trans (cg (3, 8, 12) (by decide)), (kk 3 10 (by decide)).trans (cg (3, 10, 13) (by decide)), (kk 3 11 (by decide)).trans (cg (3, 11, 14) (by decide)), (kk 3 12 (by decide)).trans (cg (3, 12, 15) (by decide)), (kk 16 0 (by decide)).trans (cg (16, 0, 17) (by decide)), (kk 18 0 (by decide)).trans (cg (18, 0, 19) (by decide)), (kk 18 1 (by decide)).trans (cg (18, 1, 21) (by decide)), (kk 19 0 (by decide)).trans (cg (19, 0, 20) (by decide)), (kk 21 0 (by decide)).trans (cg (21, 0, 22) (by decide)), y_1, y_3, y_4, y_5, y_6, y_7, y_8, y_9, y_10, y_11, y_17, fun t ht => ?_⟩
    have hq := List.all_eq_true.mp hc3 t (by rcases ht with rfl | rfl <;> decide)
    rw [Bool.and_eq_true, Bool.and_eq_true, Bool.and_eq_true] at hq
    obtain ⟨⟨⟨q1, q2⟩, q3⟩, q4⟩ := hq
    rw [kk t 0 (by omega), kk t 1 (by omega)]
    refine ⟨of_decide_eq_true q1, of_decide_eq_true q2, fun w hw => ?_, fun s hs => ?_⟩
    · have r := List.all_eq_true.mp q3 w (List.mem_range.mpr hw)
      rw [Bool.and_eq_true] at r
      rw [kk (t + 1) w (by omega), kk (t + 3 + 2 * w) 0 (by omega)]
      exact ⟨of_decide_eq_true r.1, of_decide_eq_true r.2⟩
    · have r := List.all_eq_true.mp q4 s (List.mem_range.mpr hs)
      rw [Bool.and_eq_true] at r
      rw [kk (t + 2) s (by omega), kk (t + 21 + 2 * s) 0 (by omega)]
      exact ⟨of_decide_eq_true r.1, of_decide_eq_true r.2⟩
  have zN : ZM N11 := z11 (z10 (z9 (z8 (z7 (z6 (z5 (z4 (z3 (z2 (z1 (zm_nP hz)))))))))))
  have hM0 : ∀ {N : MM}, gI N 83 0 = 0 → gI N 83 1 = 0 → MTg N 83 T0 := fun h0 h1 => ⟨h0, h1, fun w hw => absurd hw (Nat.not_lt_zero w), fun s hs => absurd hs (Nat.not_lt_zero s)⟩
  obtain ⟨M4, fL, a4, h4⟩ := m_lists LN T0_ok (hM0 (zN 83 0).1 (zN 83 1).1)
  have e4 : ∀ p j, ¬ PLS p j → gI M4 p j = 0 := fun p j h => (a4.2.2.2 p j h).trans (zN p j).1
  have j4 : ∀ p j, gJ M4 p j = 0 := fun p j => (a4.2.2.1 p j).trans (zN p j).2
  have n8 : ∀ p j, (p < 88 ∧ ¬ p = 81) ∨ (p = 81 ∧ ¬ j = 12) → ¬ PLS p j := fun p j h q => by unfold PLS at q; omega
  refine ⟨M4, ?_, by rw [a4.1, n11], LN.agp a4, T0_ok, ⟨e4 23 2 (n8 _ _ (by omega)), e4 23 3 (n8 _ _ (by omega)), fun w hw => absurd hw (Nat.not_lt_zero w), fun s hs => absurd hs (Nat.not_lt_zero s)⟩, hM0 (e4 83 0 (n8 _ _ (by omega))) (e4 83 1 (n8 _ _ (by omega))), ⟨by rw [Lt0]; exact e4 3 9 (n8 _ _ (by omega)), fun l hl => by rw [not_isL isR0]; exact e4 4 l (n8 _ _ (by omega)), fun l hl h => absurd h (by rw [isR0]; decide), fun l hl h => absurd h (by rw [not_isL isR0]; decide), fun s hs => by rw [Lt0]; exact e4 12 s (n8 _ _ (by omega)), e4 5 0 (n8 _ _ (by omega)), e4 6 0 (n8 _ _ (by omega)), e4 7 0 (n8 _ _ (by omega)), e4 8 0 (n8 _ _ (by omega)), e4 10 0 (n8 _ _ (by omega)), j4 9 0⟩, h4, ⟨0, by decide, e4 1 1 (n8 _ _ (by omega)), e4 81 2 (n8 _ _ (by omega)), fun i hi => absurd hi (Nat.not_lt_zero i)⟩, ⟨0, by decide, e4 16 1 (n8 _ _ (by omega)), e4 85 0 (n8 _ _ (by omega)), fun i hi => absurd hi (Nat.not_lt_zero i)⟩, ⟨(e4 87 0 (n8 _ _ (by omega))).trans (e4 19 2 (n8 _ _ (by omega))).symm, Or.inl (e4 87 0 (n8 _ _ (by omega)))⟩, ⟨(e4 87 1 (n8 _ _ (by omega))).trans (e4 21 2 (n8 _ _ (by omega))).symm, Or.inl (e4 87 1 (n8 _ _ (by omega)))⟩, (j4 0 6).trans (j4 81 0).symm⟩
  unfold f_X7_init
  rw [if_pos ⟨by rw [n0]; decide, by decide⟩, f1, f2, f3, f4, f5, f6, f7, f8, f9, f10, f11, fL, Option.bind_some, if_pos a4.1]
