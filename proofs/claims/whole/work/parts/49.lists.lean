/-! PURE: the reference's lists -/
theorem MTg.agp {M M' : MM} {P : Nat → Nat → Prop} {p : Nat} {T : TG} (h : MTg M p T) (a : AgP M M' P) (hd : ∀ j, ¬ P p j) : MTg M' p T := by
  have e : ∀ j, gI M' p j = gI M p j := fun j => a.2.2.2 p j (hd j)
  unfold MTg at h ⊢
  simp only [e]
  exact h
theorem m_isWord0 {M : MM} {T : TG} {sp dr : Nat} (L : LAY M sp dr) (hT : TOK T) (m0 : gI M 83 0 = nI (tNw T)) (x : Int32) : f_X7_isWord M 81 x = some (isw (tNw T) x) := by
  have hN := L.1
  have hw := hT.1
  simp [f_X7_isWord, fI_e, aI_l, aZ_l, aR_l, waI_l, waZ_l, fJ_e, fR_e, wfI_e, wfZ_e, wfJ_e, wfR_e, aI_e, aZ_e, aJ_e, aR_e, waI_e, waZ_e, waJ_e, n_sI, n_sJ, n_sR, gI_sI, gI_sJ, gI_sR, gJ_sI, gJ_sJ, gJ_sR, gR_sI, gR_sJ, gR_sR, Option.bind_some, Option.map_some, kdv_0, kdv_1, kdv_2, kdv_3, kdv_4, kdv_5, kdv_6, kdv_7, kdv_8, kdv_9, kdv_10, kdv_11, kdv_12, kdv_13, kdv_14, kdv_15, kdv_16, kdv_17, kdv_18, kdv_19, kdv_20, kdv_21, kdv_22, kdv_23, kdv_24, kdv_25, kdv_26, kdv_27, kdv_28, kdv_29, kdv_30, kdv_31, kdv_32, kdv_33, kdv_34, kdv_35, kdv_36, kdv_37, kdv_38, kdv_39, kdv_40, kdv_41, kdv_42, kdv_43, kdv_44, kdv_45, kdv_46, kdv_47, kdv_48, kdv_49, kdv_50, kdv_51, kdv_52, kdv_53, kdv_54, kdv_55, kdv_56, kdv_57, kdv_58, kdv_59, kdv_60, kdv_61, kdv_62, kdv_63, kdv_64, kdv_65, kdv_66, kdv_67, kdv_68, kdv_69, kdv_70, kdv_71, kdv_72, kdv_73, kdv_74, kdv_75, kdv_76, kdv_77, kdv_78, kdv_79, kdv_80, kdv_81, kdv_82, kdv_83, kdv_84, kdv_85, kdv_86, kdv_87, kdv_88, kdv_89, kdv_90, kdv_91, kdv_92, lnv_2, lnv_4, lnv_5, lnv_6, lnv_7, lnv_8, lnv_9, lnv_10, lnv_11, lnv_12, lnv_13, lnv_14, lnv_15, lnv_17, lnv_18, lnv_20, lnv_22, lnv_24, lnv_25, lnv_53, lnv_54, lnv_82, lnv_83, lnv_84, lnv_85, lnv_86, lnv_87, lnv_88, lnv_89, lnv_90, lnv_91, lnv_92, hN, (ly_0_0 L), (ly_0_1 L), (ly_0_2 L), (ly_0_3 L), (ly_0_4 L), (ly_0_5 L), (ly_1_0 L), (ly_3_0 L), (ly_3_1 L), (ly_3_2 L), (ly_3_3 L), (ly_3_4 L), (ly_3_5 L), (ly_3_6 L), (ly_3_7 L), (ly_3_8 L), (ly_3_10 L), (ly_3_11 L), (ly_3_12 L), (ly_16_0 L), (ly_18_0 L), (ly_18_1 L), (ly_19_0 L), (ly_21_0 L), (ly_81_1 L), (ly_81_3 L), (ly_81_4 L), (ly_81_5 L), (ly_81_6 L), (ly_81_7 L), (ly_81_8 L), (ly_81_9 L), (ly_81_10 L), (ly_81_11 L), (ly_81_17 L), m0, in_top (show tNw T < 1000 by omega), isw_01]
theorem isw_d {n d : Nat} (hn : n ≤ 9) (hd : d < 10) : isw n (nI d - 1) = b2i (decide (1 ≤ d ∧ d ≤ n)) := by
  by_cases h0 : d = 0
  · subst h0
    rw [decide_eq_false (by omega)]
    unfold isw
    rw [if_pos (by decide)]
    rfl
  · obtain ⟨w, rfl⟩ : ∃ w, d = w + 1 := ⟨d - 1, by omega⟩
    rw [nI_pred]
    unfold isw
    rw [if_neg (nI_pos (by omega))]
    by_cases h : n ≤ w
    · rw [if_pos ((nI_leI (by omega) (by omega)).mpr h), decide_eq_false (by omega)]
      rfl
    · rw [if_neg (fun e => h ((nI_leI (by omega) (by omega)).mp e)), decide_eq_true (by omega)]
      rfl
def rwU (T : TG) (l i : Nat) : Bool := ((dg l).take i).all fun d => decide (1 ≤ d ∧ d ≤ tNw T)
theorem rwU_s {T : TG} {l i : Nat} (h : i < (dg l).length) : rwU T l (i + 1) = (rwU T l i && decide (1 ≤ (dg l)[i] ∧ (dg l)[i] ≤ tNw T)) := by
  unfold rwU
  rw [take_next h, List.all_append]
  simp
theorem rwU_all {T : TG} {l : Nat} : rwU T l (dg l).length = isRow T l := by
  unfold rwU isRow
  rw [List.take_length]
def shU (T : TG) (l k : Nat) : Bool := (List.range k).any fun s => decide (shK T s = kinds T l)
theorem shU_s {T : TG} {l k : Nat} : shU T l (k + 1) = (shU T l k || decide (shK T k = kinds T l)) := by simp [shU, List.range_succ, List.any_append]
theorem isL_shU {T : TG} {l : Nat} (h : isRow T l = true) : isL T l = shU T l (tNs T) := by
  unfold isL
  rw [h]
  rfl
theorem r83 {M : MM} {sp dr : Nat} (L : LAY M sp dr) : fR M 81 7 3 = some 83 := by
  rw [fR_e L.1 (by decide) rfl]
  exact ly_81_3 L
theorem r88 {M : MM} {sp dr : Nat} (L : LAY M sp dr) : fR M 81 7 8 = some 88 := by
  rw [fR_e L.1 (by decide) rfl]
  exact ly_81_8 L
theorem r89 {M : MM} {sp dr : Nat} (L : LAY M sp dr) : fR M 81 7 9 = some 89 := by
  rw [fR_e L.1 (by decide) rfl]
  exact ly_81_9 L
theorem r90 {M : MM} {sp dr : Nat} (L : LAY M sp dr) : fR M 81 7 10 = some 90 := by
  rw [fR_e L.1 (by decide) rfl]
  exact ly_81_10 L
theorem r91 {M : MM} {sp dr : Nat} (L : LAY M sp dr) : fR M 81 7 11 = some 91 := by
  rw [fR_e L.1 (by decide) rfl]
  exact ly_81_11 L
theorem a83 {M : MM} {sp dr j : Nat} (L : LAY M sp dr) (hj : j < 110) : aI M 83 (nI j) = some (gI M 83 j) := aI_e L.1 (by decide) rfl (by rw [lnv_83]; omega)
theorem a89 {M : MM} {sp dr j : Nat} (L : LAY M sp dr) (hj : j < 820) : aI M 89 (nI j) = some (gI M 89 j) := aI_e L.1 (by decide) rfl (by rw [lnv_89]; omega)
theorem a90 {M : MM} {sp dr j : Nat} (L : LAY M sp dr) (hj : j < 820) : aI M 90 (nI j) = some (gI M 90 j) := aI_e L.1 (by decide) rfl (by rw [lnv_90]; omega)
theorem a91 {M : MM} {sp dr j : Nat} (L : LAY M sp dr) (hj : j < 820) : aI M 91 (nI j) = some (gI M 91 j) := aI_e L.1 (by decide) rfl (by rw [lnv_91]; omega)
theorem w83 {M : MM} {sp dr j : Nat} {v : Int32} (L : LAY M sp dr) (hj : j < 110) : waI M 83 (nI j) v = some (sI M 83 j v) := waI_e L.1 (by decide) rfl (by rw [lnv_83]; omega)
theorem w88 {M : MM} {sp dr j : Nat} {v : Int32} (L : LAY M sp dr) (hj : j < 820) : waI M 88 (nI j) v = some (sI M 88 j v) := waI_e L.1 (by decide) rfl (by rw [lnv_88]; omega)
theorem w89 {M : MM} {sp dr j : Nat} {v : Int32} (L : LAY M sp dr) (hj : j < 820) : waI M 89 (nI j) v = some (sI M 89 j v) := waI_e L.1 (by decide) rfl (by rw [lnv_89]; omega)
theorem w90 {M : MM} {sp dr j : Nat} {v : Int32} (L : LAY M sp dr) (hj : j < 820) : waI M 90 (nI j) v = some (sI M 90 j v) := waI_e L.1 (by decide) rfl (by rw [lnv_90]; omega)
theorem w91 {M : MM} {sp dr j : Nat} {v : Int32} (L : LAY M sp dr) (hj : j < 820) : waI M 91 (nI j) v = some (sI M 91 j v) := waI_e L.1 (by decide) rfl (by rw [lnv_91]; omega)
theorem LAY.si {M : MM} {sp dr p j : Nat} {v : Int32} (L : LAY M sp dr) : LAY (sI M p j v) sp dr := L.of rfl (fun _ _ => rfl)
theorem LAY.sj {M : MM} {sp dr p j : Nat} {v : Int64} (L : LAY M sp dr) : LAY (sJ M p j v) sp dr := L.of rfl (fun _ _ => rfl)
theorem m_isSaid {M : MM} {T : TG} {sp dr l : Nat} (L : LAY M sp dr) (hT : TOK T) (hM : MTg M 83 T) (hl : l < 1000) : f_X7_isSaid M 81 (nI l) = some (b2i (isL T l)) := by
  have hw9 := hT.1
  have hs4 := hT.2.1
  have a1 : aI M 83 1 = some (nI (tNs T)) := by
    rw [show (1 : Int32) = nI 1 from rfl, a83 L (by decide), hM.2.1]
  have hml := m_length (M := M) hl
  have hlen := dg_len (l := l)
  have hb1 : ¬ b2i true = 0 := by decide
  have hb0 : b2i false = 0 := rfl
  have lp2 : lp (fun t => z_X7_isSaid_45 M 81 (nI l) (b2i (isRow T l)) t.1 t.2) FU (0, 0) = some (b2i (isL T l)) := by
    cases hr : isRow T l with
    | false =>
      have e : isL T l = false := by
        unfold isL
        rw [hr]
        rfl
      rw [e]
      refine lp_l (n := 3999) ?_
      show z_X7_isSaid_45 M 81 (nI l) (b2i false) 0 0 = some (.inl 0)
      unfold z_X7_isSaid_45
      rw [r83 L, Option.bind_some, a1, Option.bind_some]
      by_cases c : nI (tNs T) ≤ 0
      · rw [if_pos c, if_pos (Or.inl rfl)]
        rfl
      · rw [if_neg c, if_pos hb0, if_pos (Or.inl rfl)]
        rfl
    | true =>
      rw [isL_shU hr, show ((0 : Int32), (0 : Int32)) = (b2i (shU T l 0), nI 0) from rfl]
      refine lp_run (st := fun k => (b2i (shU T l k), nI k)) (tNs T) (fun k hk => ?_) ?_ FU (show tNs T < 4000 by omega)
      · have c1 : ¬ nI (tNs T) ≤ nI k := fun e => by have := (nI_leI (by omega) (by omega)).mp e; omega
        show z_X7_isSaid_45 M 81 (nI l) (b2i true) (b2i (shU T l k)) (nI k) = some (.inr (b2i (shU T l (k + 1)), nI (k + 1)))
        unfold z_X7_isSaid_45
        rw [r83 L, Option.bind_some, a1, Option.bind_some, if_neg c1, if_neg hb1, shU_s]
        unfold j_X7_isSaid_74 j_X7_isSaid_79
        rw [nI_1]
        cases hu : shU T l k with
        | true =>
          rw [if_neg hb1]
          rfl
        | false =>
          rw [if_pos hb0, m_isOf L hT hM hl hr hk, Option.bind_some]
          cases hq : decide (shK T k = kinds T l) with
          | true =>
            rw [if_neg hb1]
            rfl
          | false =>
            rw [if_pos hb0]
            rfl
      · show z_X7_isSaid_45 M 81 (nI l) (b2i true) (b2i (shU T l (tNs T))) (nI (tNs T)) = _
        unfold z_X7_isSaid_45
        rw [r83 L, Option.bind_some, a1, Option.bind_some, if_pos (Int32.le_refl _), if_pos b2i_0]
        rfl
  unfold f_X7_isSaid
  rw [if_pos (r81 L), show ((1 : Int32), (0 : Int32)) = (b2i (rwU T l 0), nI 0) from rfl]
  refine lp_run (st := fun i => (b2i (rwU T l i), nI i)) (dg l).length (fun i hi => ?_) ?_ FU (show (dg l).length < 4000 by omega)
  · have c1 : ¬ nI (dg l).length ≤ nI i := fun e => by have := (nI_leI (by omega) (by omega)).mp e; omega
    show z_X7_isSaid_4 M 81 (nI l) (b2i (rwU T l i)) (nI i) = some (.inr (b2i (rwU T l (i + 1)), nI (i + 1)))
    unfold z_X7_isSaid_4
    rw [hml, Option.bind_some, if_neg c1, rwU_s hi]
    unfold j_X7_isSaid_32 j_X7_isSaid_33
    rw [nI_1]
    cases hu : rwU T l i with
    | false =>
      rw [if_pos hb0]
      rfl
    | true =>
      rw [if_neg hb1, m_wordOf hl hi, Option.bind_some, m_isWord0 L hT hM.1, Option.bind_some, isw_d hw9 (dg_lt hl _ (List.getElem_mem hi))]
      cases hd : decide (1 ≤ (dg l)[i] ∧ (dg l)[i] ≤ tNw T) with
      | false =>
        rw [if_pos hb0]
        rfl
      | true =>
        rw [if_neg hb1]
        rfl
  · show z_X7_isSaid_4 M 81 (nI l) (b2i (rwU T l (dg l).length)) (nI (dg l).length) = _
    unfold z_X7_isSaid_4
    rw [hml, Option.bind_some, if_pos (Int32.le_refl _), rwU_all, lp2]
    rfl
/-! a word is added -/
def cwU (T : TG) (w k s : Nat) : Nat := ((List.range k).map (tSg T w)).count s
theorem cwU_s {T : TG} {w k s : Nat} : cwU T w (k + 1) s = cwU T w k s + if tSg T w k = s then 1 else 0 := by
  unfold cwU
  rw [List.range_succ, List.map_append, List.count_append, List.map_cons, List.map_nil, List.count_singleton]
  simp
theorem pk4_one {f : Nat → Nat} {s0 : Nat} (h : s0 < 8) : pk 4 (fun s => f s + if s0 = s then 1 else 0) = pk 4 f + 2 ^ (4 * s0) := by
  unfold pk
  rcases (show s0 = 0 ∨ s0 = 1 ∨ s0 = 2 ∨ s0 = 3 ∨ s0 = 4 ∨ s0 = 5 ∨ s0 = 6 ∨ s0 = 7 by omega) with rfl | rfl | rfl | rfl | rfl | rfl | rfl | rfl <;> simp <;> omega
theorem pk4_add {f g : Nat → Nat} : pk 4 (fun s => f s + g s) = pk 4 f + pk 4 g := by
  simp only [pk]
  omega
theorem pkU0 {c : Nat} {T : TG} {w : Nat} : pk c (cwU T w 0) = 0 := by simp [pk, cwU]
theorem sh4 : ∀ s, s < 8 → (1 : Int32) <<< (((4 : Int32) * nI s) &&& 31) = nI (2 ^ (4 * s)) := by decide +kernel
def PA (m p j : Nat) : Prop := (p = 89 ∨ p = 90 ∨ p = 91) ∧ j = m
theorem m_addsL {T : TG} {sp dr m w c : Nat} (hT : TOK T) (hm8 : m < 820) (hw : w < tNw T) : ∀ d fuel i M, i + d = tWl T w → d < fuel → LAY M sp dr → MTg M 83 T → gI M 81 12 = nI m → gI M 89 m = nI (c + pk 4 (cwU T w i)) → ∃ M', lp (fun t => z_X7_adds_44 t.2 81 (nI w) t.1) fuel (nI i, M) = some M' ∧ AgP M M' (fun p j => p = 89 ∧ j = m) ∧ gI M' 89 m = nI (c + pk 4 (cw T w)) := by
  have hw9 := hT.1
  obtain ⟨-, hl5, hs8, -⟩ := hT.2.2.1 w hw
  intro d
  induction d with
  | zero =>
    intro fuel i M hi hf L hM hm g9
    obtain ⟨fuel, rfl⟩ : ∃ m, fuel = m + 1 := ⟨fuel - 1, by omega⟩
    obtain rfl : i = tWl T w := by omega
    obtain ⟨t1, t2, t3, t4, t5⟩ := hM.2.2.1 w hw
    refine ⟨M, lp_l ?_, AgP.rf, g9⟩
    show z_X7_adds_44 M 81 (nI w) (nI (tWl T w)) = some (.inl M)
    unfold z_X7_adds_44
    rw [r83 L, Option.bind_some, show (30 : Int32) + nI w = nI (30 + w) from nI_add 30 w, a83 L (by omega), t4, Option.bind_some, if_pos (Int32.le_refl _)]
  | succ d ih =>
    intro fuel i M hi hf L hM hm g9
    obtain ⟨fuel, rfl⟩ : ∃ m, fuel = m + 1 := ⟨fuel - 1, by omega⟩
    obtain ⟨t1, t2, t3, t4, t5⟩ := hM.2.2.1 w hw
    have hil : i < tWl T w := by omega
    have c1 : ¬ nI (tWl T w) ≤ nI i := fun e => by have := (nI_leI (by omega) (by omega)).mp e; omega
    have e39 : ((39 : Int32) + (5 * nI w)) + nI i = nI (39 + 5 * w + i) := by
      rw [show (5 : Int32) = nI 5 from rfl, show (39 : Int32) = nI 39 from rfl, nI_mul, nI_add, nI_add]
    have a : AgP M (sI M 89 m (nI (c + pk 4 (cwU T w (i + 1))))) (fun p j => p = 89 ∧ j = m) := AgP.rf.sI ⟨rfl, rfl⟩
    obtain ⟨M', f', a', g'⟩ := ih fuel (i + 1) (sI M 89 m (nI (c + pk 4 (cwU T w (i + 1))))) (by omega) (by omega) L.si (hM.agp a (fun j q => absurd q.1 (by decide))) (by rw [gp_cell (by decide)]; exact hm) gp_same
    refine ⟨M', ?_, a.tr a', g'⟩
    rw [lp_e (t := (nI (i + 1), sI M 89 m (nI (c + pk 4 (cwU T w (i + 1))))))]
    · exact f'
    · show z_X7_adds_44 M 81 (nI w) (nI i) = _
      have e1 : nI (c + pk 4 (cwU T w i)) + nI (2 ^ (4 * tSg T w i)) = nI (c + pk 4 (cwU T w (i + 1))) := by
        rw [nI_add, pk_ext (c := 4) (f := cwU T w (i + 1)) (fun s _ => cwU_s), pk4_one (hs8 i hil)]
        congr 1
        omega
      unfold z_X7_adds_44
      rw [r83 L, Option.bind_some, show (30 : Int32) + nI w = nI (30 + w) from nI_add 30 w, a83 L (by omega), t4, Option.bind_some, if_neg c1, r89 L, Option.bind_some, mf L, hm, Option.bind_some, a89 L hm8, g9, Option.bind_some, Option.bind_some, e39, a83 L (by omega), t5 i hil, Option.bind_some, sh4 _ (hs8 i hil), e1, w89 L hm8, Option.bind_some, nI_1]
theorem m_adds {M : MM} {T : TG} {sp dr m w c o q : Nat} (L : LAY M sp dr) (hT : TOK T) (hM : MTg M 83 T) (hm : gI M 81 12 = nI m) (hm8 : m < 820) (hw : w < tNw T) (g9 : gI M 89 m = nI c) (g0 : gI M 90 m = nI o) (g1 : gI M 91 m = nI q) : ∃ M', f_X7_adds M 81 (nI w) = some M' ∧ AgP M M' (PA m) ∧ gI M' 89 m = nI (c + pk 4 (cw T w)) ∧ gI M' 90 m = nI (o + tOw T w) ∧ gI M' 91 m = nI (q + tOt T w) := by
  have hw9 := hT.1
  have hl5 := (hT.2.2.1 w hw).2.1
  obtain ⟨t1, t2, t3, t4, t5⟩ := hM.2.2.1 w hw
  have A1 : AgP M (sI M 90 m (nI (o + tOw T w))) (PA m) := AgP.rf.sI ⟨Or.inr (Or.inl rfl), rfl⟩
  have A2 : AgP M (sI (sI M 90 m (nI (o + tOw T w))) 91 m (nI (q + tOt T w))) (PA m) := A1.sI ⟨Or.inr (Or.inr rfl), rfl⟩
  obtain ⟨M', f', a', g'⟩ := m_addsL (c := c) hT hm8 hw (tWl T w) FU 0 (sI (sI M 90 m (nI (o + tOw T w))) 91 m (nI (q + tOt T w))) (by omega) (show tWl T w < 4000 by omega) L.si.si (hM.agp A2 (fun j h => by unfold PA at h; omega)) (by rw [gp_cell (by decide), gp_cell (by decide)]; exact hm) (by rw [gp_cell (by decide), gp_cell (by decide), g9, pkU0]; rfl)
  refine ⟨M', ?_, A2.tr (a'.mono (fun p j h => ⟨Or.inl h.1, h.2⟩)), g', ?_, ?_⟩
  · unfold f_X7_adds
    rw [if_pos (r81 L), r90 L, Option.bind_some, mf L, hm, Option.bind_some, a90 L hm8, g0, Option.bind_some, r83 L, Option.bind_some, show (12 : Int32) + nI w = nI (12 + w) from nI_add 12 w, a83 L (by omega), t2, Option.bind_some, nI_add o, w90 L hm8, Option.bind_some, r91 L.si, Option.bind_some, mf L.si, gp_cell (show ¬ 81 = 90 by decide), hm, Option.bind_some, a91 L.si hm8, gp_cell (show ¬ 91 = 90 by decide), g1, Option.bind_some, r83 L.si, Option.bind_some, show (21 : Int32) + nI w = nI (21 + w) from nI_add 21 w, a83 L.si (by omega), gp_cell (show ¬ 83 = 90 by decide), t3, Option.bind_some, nI_add q, w91 L.si hm8, Option.bind_some]
    exact f'
  · rw [a'.2.2.2 90 m (fun h => absurd h.1 (by decide)), gp_cell (by decide), gp_same]
  · rw [a'.2.2.2 91 m (fun h => absurd h.1 (by decide)), gp_same]
/-! the lists -/
def PL (m p j : Nat) : Prop := (p = 81 ∧ j = 12) ∨ ((p = 88 ∨ p = 89 ∨ p = 90 ∨ p = 91) ∧ j = m)
def PLS (p j : Nat) : Prop := (p = 81 ∧ j = 12) ∨ (88 ≤ p ∧ p ≤ 91)
theorem sum_t {A : List Nat} {f : Nat → Nat} {x : Nat} : ((A ++ [x]).map f).sum = (A.map f).sum + f x := by simp
theorem m_l64 {T : TG} {sp dr l m : Nat} (hT : TOK T) (hl : l < 1000) (hr : isRow T l = true) (hm8 : m < 820) : ∀ d fuel i M, i + d = (dg l).length → d < fuel → LAY M sp dr → MTg M 83 T → gI M 81 12 = nI m → gI M 89 m = nI (pk 4 fun s => (((dg l).take i).map fun d => cw T (d - 1) s).sum) → gI M 90 m = nI (((dg l).take i).map fun d => tOw T (d - 1)).sum → gI M 91 m = nI (((dg l).take i).map fun d => tOt T (d - 1)).sum → ∃ M', lp (fun t => z_X7_lists_64 t.2 81 (nI l) t.1) fuel (nI i, M) = some (.inr (nI (l + 1), M')) ∧ AgP M M' (PL m) ∧ gI M' 88 m = gI M 88 m ∧ gI M' 81 12 = nI (m + 1) ∧ gI M' 89 m = nI (pk 4 (cn T l)) ∧ gI M' 90 m = nI (ownL T l) ∧ gI M' 91 m = nI (othL T l) := by
  have hlen := dg_len (l := l)
  intro d
  induction d with
  | zero =>
    intro fuel i M hi hf L hM hm g9 g0 g1
    obtain ⟨fuel, rfl⟩ : ∃ m, fuel = m + 1 := ⟨fuel - 1, by omega⟩
    obtain rfl : i = (dg l).length := by omega
    rw [List.take_length] at g9 g0 g1
    refine ⟨sI M 81 12 (nI (m + 1)), lp_l ?_, AgP.rf.sI (Or.inl ⟨rfl, rfl⟩), by rw [gp_cell (by decide)], gp_same, by rw [gp_cell (by decide)]; exact g9, by rw [gp_cell (by decide)]; exact g0, by rw [gp_cell (by decide)]; exact g1⟩
    show z_X7_lists_64 M 81 (nI l) (nI (dg l).length) = _
    unfold z_X7_lists_64 j_X7_lists_97
    rw [m_length hl, Option.bind_some, if_pos (Int32.le_refl _), mf L, hm, Option.bind_some, nI_1, wmf L, Option.bind_some, nI_1]
    rfl
  | succ d ih =>
    intro fuel i M hi hf L hM hm g9 g0 g1
    obtain ⟨fuel, rfl⟩ : ∃ m, fuel = m + 1 := ⟨fuel - 1, by omega⟩
    have hil : i < (dg l).length := by omega
    have c1 : ¬ nI (dg l).length ≤ nI i := fun e => by have := (nI_leI (by omega) (by omega)).mp e; omega
    have hdi := row_dig hr (List.getElem_mem hil)
    have hwo := m_wordOf (M := M) hl hil
    have hnx := take_next hil
    obtain ⟨w, hw⟩ : ∃ w, (dg l)[i] = w + 1 := ⟨(dg l)[i] - 1, by omega⟩
    rw [hw, nI_pred] at hwo
    rw [hw] at hdi hnx
    obtain ⟨M1, f1, a1, h9, h0, h1⟩ := m_adds L hT hM hm hm8 (show w < tNw T by omega) g9 g0 g1
    have n8 : ∀ j, ¬ PA m 88 j := fun j h => by unfold PA at h; omega
    obtain ⟨M', f', a', k8, k12, k9, k0, k1⟩ := ih fuel (i + 1) M1 (by omega) (by omega) (L.agp a1) (hM.agp a1 (fun j h => by unfold PA at h; omega)) (by rw [a1.2.2.2 81 12 (fun h => by unfold PA at h; omega)]; exact hm) (by rw [h9, hnx, pk_ext (c := 4) (f := fun s => (((dg l).take i ++ [w + 1]).map fun d => cw T (d - 1) s).sum) (fun s _ => sum_t), pk4_add]; rfl) (by rw [h0, hnx, sum_t]; rfl) (by rw [h1, hnx, sum_t]; rfl)
    refine ⟨M', ?_, (a1.mono (fun p j h => Or.inr ⟨Or.inr h.1, h.2⟩)).tr a', by rw [k8, a1.2.2.2 88 m (n8 m)], k12, k9, k0, k1⟩
    rw [lp_e (t := (nI (i + 1), M1))]
    · exact f'
    · show z_X7_lists_64 M 81 (nI l) (nI i) = _
      unfold z_X7_lists_64
      rw [m_length hl, Option.bind_some, if_neg c1, hwo, Option.bind_some, f1, Option.bind_some, if_pos a1.1, nI_1]
def LSx (M : MM) (T : TG) (A : List Nat) : Prop := gI M 81 12 = nI A.length ∧ ∀ k (h : k < A.length), gI M 88 k = nI A[k] ∧ gI M 89 k = nI (pk 4 (cn T A[k])) ∧ gI M 90 k = nI (ownL T A[k]) ∧ gI M 91 k = nI (othL T A[k])
theorem LSx.app {M M' : MM} {T : TG} {A : List Nat} {l : Nat} (h : LSx M T A) (a : AgP M M' (PL A.length)) (h0 : gI M' 81 12 = nI (A.length + 1)) (h1 : gI M' 88 A.length = nI l) (h2 : gI M' 89 A.length = nI (pk 4 (cn T l))) (h3 : gI M' 90 A.length = nI (ownL T l)) (h4 : gI M' 91 A.length = nI (othL T l)) : LSx M' T (A ++ [l]) := by
  refine ⟨by rw [h0, List.length_append]; rfl, fun k hk => ?_⟩
  by_cases hkA : k < A.length
  · have e : ∀ p, (p = 88 ∨ p = 89 ∨ p = 90 ∨ p = 91) → gI M' p k = gI M p k := fun p hp => a.2.2.2 p k (fun q => by unfold PL at q; omega)
    rw [List.getElem_append_left hkA, e 88 (by simp), e 89 (by simp), e 90 (by simp), e 91 (by simp)]
    exact h.2 k hkA
  · have hk2 : k = A.length := by
      rw [List.length_append, List.length_singleton] at hk
      omega
    subst hk2
    have e : (A ++ [l])[A.length]'hk = l := by simp
    rw [e]
    exact ⟨h1, h2, h3, h4⟩
theorem m_lists0 {T : TG} {sp dr : Nat} (hT : TOK T) : ∀ d fuel l M, l + d = 1000 → 1 ≤ l → d < fuel → LAY M sp dr → MTg M 83 T → LSx M T (LB T l) → ∃ M', lp (fun t => z_X7_lists_7 t.2 81 t.1) fuel (nI l, M) = some M' ∧ AgP M M' PLS ∧ LSx M' T (Lt T) := by
  intro d
  induction d with
  | zero =>
    intro fuel l M hl h1 hf L hM hS
    obtain ⟨fuel, rfl⟩ : ∃ m, fuel = m + 1 := ⟨fuel - 1, by omega⟩
    obtain rfl : l = 1000 := by omega
    rw [LB_all] at hS
    refine ⟨M, lp_l ?_, AgP.rf, hS⟩
    show z_X7_lists_7 M 81 (nI 1000) = _
    unfold z_X7_lists_7
    rw [if_pos (by decide)]
  | succ d ih =>
    intro fuel l M hl h1 hf L hM hS
    obtain ⟨fuel, rfl⟩ : ∃ m, fuel = m + 1 := ⟨fuel - 1, by omega⟩
    have hl1 : l < 1000 := by omega
    have c1 : ¬ (1000 : Int32) ≤ nI l := fun e => by have := (nI_leI (a := 1000) (by decide) (by omega)).mp e; omega
    have hsd := m_isSaid L hT hM hl1
    cases hL : isL T l with
    | false =>
      rw [hL] at hsd
      obtain ⟨M', f', a', h'⟩ := ih fuel (l + 1) M (by omega) (by omega) (by omega) L hM (by rw [LB_no hL]; exact hS)
      refine ⟨M', ?_, a', h'⟩
      rw [lp_e (t := (nI (l + 1), M))]
      · exact f'
      · show z_X7_lists_7 M 81 (nI l) = _
        unfold z_X7_lists_7 j_X7_lists_97
        rw [if_neg c1, hsd, Option.bind_some, if_pos (show b2i false = 0 from rfl), nI_1]
    | true =>
      rw [hL] at hsd
      have hm8 : (LB T l).length < 820 := by
        have h1 := LB_le (T := T) (i := l) (by omega)
        have h2 := Lt_819 (T := T)
        omega
      have hm := hS.1
      generalize hmv : (LB T l).length = m at hm8 hm
      have A4 : AgP M (sI (sI (sI (sI M 88 m (nI l)) 89 m 0) 90 m 0) 91 m 0) (PL m) := (((AgP.rf.sI (Or.inr ⟨by simp, rfl⟩)).sI (Or.inr ⟨by simp, rfl⟩)).sI (Or.inr ⟨by simp, rfl⟩)).sI (Or.inr ⟨by simp, rfl⟩)
      obtain ⟨M1, f1, a1, k8, k12, k9, k0, k1⟩ := m_l64 (m := m) hT hl1 (isL_row hL) hm8 (dg l).length FU 0 (sI (sI (sI (sI M 88 m (nI l)) 89 m 0) 90 m 0) 91 m 0) (by omega) (show (dg l).length < 4000 by have := dg_len (l := l); omega) L.si.si.si.si (hM.agp A4 (fun j h => by unfold PL at h; omega)) (by rw [gp_cell (by decide), gp_cell (by decide), gp_cell (by decide), gp_cell (by decide)]; exact hm) (by rw [gp_cell (by decide), gp_cell (by decide), gp_same]; simp [pk, n00]) (by rw [gp_cell (by decide), gp_same]; rfl) (by rw [gp_same]; rfl)
      have A1 : AgP M M1 (PL m) := A4.tr a1
      rw [gp_cell (by decide), gp_cell (by decide), gp_cell (by decide), gp_same] at k8
      subst hmv
      obtain ⟨M', f', a', h'⟩ := ih fuel (l + 1) M1 (by omega) (by omega) (by omega) (L.agp A1) (hM.agp A1 (fun j h => by unfold PL at h; omega)) (by rw [LB_yes hL]; exact hS.app A1 k12 k8 k9 k0 k1)
      refine ⟨M', ?_, (A1.mono (fun p j h => by unfold PL at h; unfold PLS; omega)).tr a', h'⟩
      rw [lp_e (t := (nI (l + 1), M1))]
      · exact f'
      · show z_X7_lists_7 M 81 (nI l) = _
        have z0 : ∀ {N : MM}, LAY N sp dr → fI N 81 7 12 = some (gI N 81 12) := fun h => mf h 12
        unfold z_X7_lists_7
        rw [if_neg c1, hsd, Option.bind_some, if_neg (show ¬ b2i true = 0 by decide), r88 L, Option.bind_some, mf L, hm, Option.bind_some, w88 L hm8, Option.bind_some, r89 L.si, Option.bind_some, mf L.si, gp_cell (show ¬ 81 = 88 by decide), hm, Option.bind_some, w89 L.si hm8, Option.bind_some, r90 L.si.si, Option.bind_some, mf L.si.si, gp_cell (show ¬ 81 = 89 by decide), gp_cell (show ¬ 81 = 88 by decide), hm, Option.bind_some, w90 L.si.si hm8, Option.bind_some, r91 L.si.si.si, Option.bind_some, mf L.si.si.si, gp_cell (show ¬ 81 = 90 by decide), gp_cell (show ¬ 81 = 89 by decide), gp_cell (show ¬ 81 = 88 by decide), hm, Option.bind_some, w91 L.si.si.si hm8, Option.bind_some]
        exact f1
theorem m_lists {M : MM} {T : TG} {sp dr : Nat} (L : LAY M sp dr) (hT : TOK T) (hM : MTg M 83 T) : ∃ M', f_X7_lists M 81 = some M' ∧ AgP M M' PLS ∧ LST M' T := by
  have A : AgP M (sI M 81 12 0) PLS := AgP.rf.sI (Or.inl ⟨rfl, rfl⟩)
  obtain ⟨M', f', a', h'⟩ := m_lists0 (T := T) hT 999 FU 1 (sI M 81 12 0) rfl (by decide) (show 999 < 4000 by decide) L.si (hM.agp A (fun j h => by unfold PLS at h; omega)) ⟨by rw [gp_same, LB_one]; rfl, fun k hk => by rw [LB_one] at hk; exact absurd hk (Nat.not_lt_zero k)⟩
  refine ⟨M', ?_, A.tr a', h'⟩
  unfold f_X7_lists
  rw [if_pos (r81 L), wmf L, Option.bind_some]
  exact f'
