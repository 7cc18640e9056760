/-! PURE: rows of kinds; asked -/
theorem rowN_app {A : List Nat} {k : Nat} : rowN (A ++ [k]) = rowN A * 4 + k + 1 := by simp [rowN, List.foldl_append]
theorem rowN_inj : ∀ (n : Nat) (A B : List Nat), A.length = n → (∀ x ∈ A, x < 3) → (∀ x ∈ B, x < 3) → rowN A = rowN B → A = B
  | 0, A, B, hn, hA, hB, h => by
    obtain rfl := List.length_eq_zero_iff.mp hn
    rcases List.eq_nil_or_concat B with rfl | ⟨B', b, rfl⟩
    · rfl
    · rw [List.concat_eq_append, rowN_app] at h
      have : rowN [] = 0 := rfl
      omega
  | n + 1, A, B, hn, hA, hB, h => by
    rcases List.eq_nil_or_concat A with rfl | ⟨A', a, rfl⟩
    · simp at hn
    · rw [List.concat_eq_append] at *
      rcases List.eq_nil_or_concat B with rfl | ⟨B', b, rfl⟩
      · rw [rowN_app] at h
        have : rowN [] = 0 := rfl
        omega
      · rw [List.concat_eq_append] at *
        rw [rowN_app, rowN_app] at h
        have ha := hA a (by simp)
        have hb := hB b (by simp)
        have e1 : a = b := by omega
        have e2 : rowN A' = rowN B' := by omega
        have ih := rowN_inj n A' B' (by simp at hn; omega) (fun x hx => hA x (by simp [hx])) (fun x hx => hB x (by simp [hx])) e2
        rw [e1, ih]
theorem rowN_le {A : List Nat} (hA : ∀ x ∈ A, x < 3) (h : A.length ≤ 3) : rowN A ≤ 63 := by
  match A, h with
  | [], _ => simp [rowN]
  | [a], _ =>
    have := hA a (by simp)
    simp [rowN]; omega
  | [a, b], _ =>
    have := hA a (by simp)
    have := hA b (by simp)
    simp [rowN]; omega
  | [a, b, c], _ =>
    have := hA a (by simp)
    have := hA b (by simp)
    have := hA c (by simp)
    simp [rowN]; omega
  | a :: b :: c :: d :: A, h => simp at h
theorem kinds_lt {T : TG} {l : Nat} (hT : TOK T) (h : isRow T l = true) : ∀ x ∈ kinds T l, x < 3 := by
  intro x hx
  unfold kinds at hx
  obtain ⟨d, hd, rfl⟩ := List.mem_map.mp hx
  have := row_dig h hd
  exact (hT.2.2.1 (d - 1) (by omega)).2.2.2.1
theorem kinds_len {T : TG} {l : Nat} : (kinds T l).length = (dg l).length := by simp [kinds]
theorem shK_lt {T : TG} {s : Nat} (hT : TOK T) (h : s < tNs T) : ∀ x ∈ shK T s, x < 3 := by
  intro x hx
  unfold shK at hx
  obtain ⟨i, hi, rfl⟩ := List.mem_map.mp hx
  exact (hT.2.2.2 s h).2.2 i (List.mem_range.mp hi)
theorem shK_len {T : TG} {s : Nat} : (shK T s).length = tSl T s := by simp [shK]
theorem rowN_eq {T : TG} {s l : Nat} (hT : TOK T) (hs : s < tNs T) (hr : isRow T l = true) : (nI (rowN (shK T s)) = nI (rowN (kinds T l))) ↔ shK T s = kinds T l := by
  have h1 := rowN_le (shK_lt hT hs) (by rw [shK_len]; exact (hT.2.2.2 s hs).2.1)
  have h2 := rowN_le (kinds_lt hT hr) (by rw [kinds_len]; exact dg_len)
  have e : (nI (rowN (shK T s)) = nI (rowN (kinds T l))) ↔ rowN (shK T s) = rowN (kinds T l) := nI_eq (by omega) (by omega)
  rw [e]
  exact ⟨fun h => rowN_inj _ _ _ rfl (shK_lt hT hs) (kinds_lt hT hr) h, fun h => by rw [h]⟩
theorem c_row {M : MM} {T : TG} {t s : Nat} {sp dr : Nat} (L : LAY M sp dr) (ht : t = 23 ∨ t = 52) (hT : TOK T) (hC : CTg M t T) (hs : s < tNs T) : f_X2_row M (t + 21 + 2 * s) = some (nI (rowN (shK T s))) := by
  have hN := L.1
  obtain ⟨ks0, ks1, ks2, ks3, ks4, ks5, ks6, ks7, ks8⟩ := tkf ht
  obtain ⟨lt0, lt1, lt2, lt3⟩ := ly_t L t ht
  have hs4 : s < 4 := by have := hT.2.1; omega
  obtain ⟨k1, k2, k3⟩ := ks7 s hs4
  obtain ⟨g1, g2⟩ := lt3 s hs4
  obtain ⟨v1, v2⟩ := hC.2.2.2 s hs
  obtain ⟨h1, h3, h4⟩ := hT.2.2.2 s hs
  have hp : t + 21 + 2 * s < 93 := by omega
  have hp2 : t + 22 + 2 * s < 93 := by omega
  simp only [f_X2_row, hN, k1]
  rw [if_pos ⟨hp, trivial⟩, show ((0, 0) : Int32 × Int32) = (nI (rowN ((List.range 0).map (tSk T s))), nI 0) from rfl]
  have hfI := fI_e (c := 2) (k := 1) hN hp (by rw [k1]; rfl)
  rw [v1] at hfI
  have hfR := fR_e (c := 2) (k := 0) hN hp (by rw [k1]; rfl)
  rw [g2] at hfR
  refine lp_run (st := fun i => (nI (rowN ((List.range i).map (tSk T s))), nI i)) (tSl T s) (fun i hi => ?_) ?_ FU (show tSl T s < 4000 by omega)
  · have c1 : ¬ nI (tSl T s) ≤ nI i := fun e => by have := (nI_leI (by omega) (by omega)).mp e; omega
    have ha := aI_e (i := i) hN hp2 (by rw [k2]; rfl) (by rw [k3]; omega)
    rw [v2 i hi] at ha
    have e1 : nI i + 1 = nI (i + 1) := nI_1 i
    have e2 : (nI (rowN ((List.range i).map (tSk T s))) * 4 + nI (tSk T s i)) + 1 = nI (rowN ((List.range (i + 1)).map (tSk T s))) := by
      rw [List.range_succ, List.map_append, List.map_cons, List.map_nil, rowN_app, show (4 : Int32) = nI 4 from rfl, nI_mul, nI_add]
      exact nI_1 _
    simp only [z_X2_row_4, hfI, Option.bind_some, if_neg c1, hfR, ha, f_X2_lengthened, e1, e2]
  · have c1 : nI (tSl T s) ≤ nI (tSl T s) := Int32.le_refl _
    simp only [z_X2_row_4, hfI, Option.bind_some, if_pos c1]
    rfl
def kat (T : TG) (l j : Nat) : Nat := tKn T ((dg l).getD j 0 - 1)
def eqU (T : TG) (s l i : Nat) : Bool := (List.range i).all fun j => decide (tSk T s j = kat T l j)
theorem eqU_s {T : TG} {s l i : Nat} : eqU T s l (i + 1) = (eqU T s l i && decide (tSk T s i = kat T l i)) := by simp [eqU, List.range_succ, List.all_append]
theorem eqU_f {T : TG} {s l i n : Nat} (h : eqU T s l i = false) (hi : i ≤ n) : eqU T s l n = false := by
  obtain ⟨d, rfl⟩ : ∃ d, n = i + d := ⟨n - i, by omega⟩
  clear hi
  induction d with
  | zero => exact h
  | succ d ih => rw [← Nat.add_assoc, eqU_s, ih]; rfl
theorem shK_eq {T : TG} {s l : Nat} : shK T s = kinds T l ↔ (tSl T s = (dg l).length ∧ eqU T s l (dg l).length = true) := by
  constructor
  · intro h
    have h1 : tSl T s = (dg l).length := by rw [← shK_len (T := T), h, kinds_len]
    refine ⟨h1, List.all_eq_true.mpr (fun j hj => ?_)⟩
    have hj2 := List.mem_range.mp hj
    have e : (shK T s)[j]? = (kinds T l)[j]? := by rw [h]
    unfold shK kinds at e
    rw [List.getElem?_map, List.getElem?_map, List.getElem?_range (by omega), List.getElem?_eq_getElem hj2] at e
    simp only [Option.map_some, Option.some.injEq] at e
    refine decide_eq_true ?_
    unfold kat
    rw [List.getD_eq_getElem?_getD, List.getElem?_eq_getElem hj2]
    exact e
  · rintro ⟨h1, h2⟩
    refine List.ext_getElem (by rw [shK_len, kinds_len, h1]) (fun j a1 a2 => ?_)
    have hj : j < (dg l).length := by rw [kinds_len] at a2; exact a2
    have := of_decide_eq_true (List.all_eq_true.mp h2 j (List.mem_range.mpr hj))
    unfold kat at this
    rw [List.getD_eq_getElem?_getD, List.getElem?_eq_getElem hj] at this
    simpa [shK, kinds] using this
theorem m_isOf {M : MM} {T : TG} {sp dr l s : Nat} (L : LAY M sp dr) (hT : TOK T) (hM : MTg M 83 T) (hl : l < 1000) (hr : isRow T l = true) (hs : s < tNs T) : f_X7_isOf M 81 (nI l) (nI s) = some (b2i (decide (shK T s = kinds T l))) := by
  have hN := L.1
  have hs4 : s < 4 := by have := hT.2.1; omega
  have hw9 := hT.1
  obtain ⟨-, -, hMw, hMs⟩ := hM
  obtain ⟨v1, v2⟩ := hMs s hs
  obtain ⟨h1, h3, h4⟩ := hT.2.2.2 s hs
  have r3 : fR M 81 7 3 = some 83 := by rw [fR_e hN (by decide) rfl]; exact ly_81_3 L
  have hlen := dg_len (l := l)
  have hlen1 : 1 ≤ (dg l).length := by rcases dg_vals hl with ⟨_, e⟩ | ⟨_, _, e⟩ | ⟨_, e⟩ <;> rw [e] <;> simp
  have a84 := aI_e (p := 83) (i := 84 + s) hN (by decide) rfl (by rw [lnv_83]; omega)
  rw [v1] at a84
  have hml := m_length (M := M) hl
  have hz : (nI (tSl T s) = nI (dg l).length) ↔ tSl T s = (dg l).length := nI_eq (by omega) (by omega)
  have g : 81 < M.1 ∧ kd 81 = 7 := by rw [hN]; decide
  unfold f_X7_isOf
  rw [if_pos g, r3, Option.bind_some, show (84 : Int32) + nI s = nI (84 + s) from nI_add 84 s, a84, Option.bind_some, hml, Option.bind_some]
  unfold j_X7_isOf_21
  by_cases hn : tSl T s = (dg l).length
  · rw [if_pos (hz.mpr hn)]
    have key : ∀ d fuel i, i + d = (dg l).length → d < fuel → lp (fun t => z_X7_isOf_25 M 81 (nI l) (nI s) t.1 t.2) fuel (b2i (eqU T s l i), nI i) = some (b2i (eqU T s l (dg l).length)) := by
      intro d
      induction d with
      | zero =>
        intro fuel i hi hf
        obtain ⟨fuel, rfl⟩ : ∃ m, fuel = m + 1 := ⟨fuel - 1, by omega⟩
        obtain rfl : i = (dg l).length := by omega
        have c1 : nI (dg l).length ≤ nI (dg l).length := Int32.le_refl _
        unfold lp z_X7_isOf_25
        simp only [hml, Option.bind_some, if_pos c1, if_pos b2i_0]
        rfl
      | succ d ih =>
        intro fuel i hi hf
        obtain ⟨fuel, rfl⟩ : ∃ m, fuel = m + 1 := ⟨fuel - 1, by omega⟩
        have c1 : ¬ nI (dg l).length ≤ nI i := fun e => by have := (nI_leI (by omega) (by omega)).mp e; omega
        unfold lp
        cases he : eqU T s l i with
        | false =>
          rw [eqU_f he (show i ≤ (dg l).length by omega)]
          simp [z_X7_isOf_25, hml, c1, b2i]
        | true =>
          have hil : i < (dg l).length := by omega
          have hdi := row_dig hr (List.getElem_mem hil)
          have hwo := m_wordOf (M := M) hl hil
          obtain ⟨w, hw⟩ : ∃ w, (dg l)[i] = w + 1 := ⟨(dg l)[i] - 1, by omega⟩
          have hka : kat T l i = tKn T w := by
            unfold kat
            rw [List.getD_eq_getElem?_getD, List.getElem?_eq_getElem hil, Option.getD_some, hw]
            rfl
          rw [hw, nI_pred] at hwo
          rw [hw] at hdi
          have hwn : w < tNw T := by omega
          have aw := aI_e (p := 83) (i := 3 + w) hN (by decide) rfl (by rw [lnv_83]; omega)
          rw [(hMw w hwn).1] at aw
          have as := aI_e (p := 83) (i := 88 + 3 * s + i) hN (by decide) rfl (by rw [lnv_83]; omega)
          rw [v2 i (by omega)] at as
          have e1 : nI i + 1 = nI (i + 1) := nI_1 i
          have e2 : ((88 : Int32) + 3 * nI s) + nI i = nI (88 + 3 * s + i) := by
            rw [show (3 : Int32) = nI 3 from rfl, show (88 : Int32) = nI 88 from rfl, nI_mul, nI_add, nI_add]
          have e3 : (3 : Int32) + nI w = nI (3 + w) := nI_add 3 w
          have hk1 := h4 i (by omega)
          have hk2 := (hT.2.2.1 w hwn).2.2.2.1
          have hc : (nI (tSk T s i) = nI (tKn T w)) ↔ tSk T s i = tKn T w := nI_eq (by omega) (by omega)
          have hih := ih fuel (i + 1) (by omega) (by omega)
          rw [eqU_s, he, hka] at hih
          have b1 : ¬ b2i true = 0 := by decide
          by_cases hq : tSk T s i = tKn T w
          · have hst : z_X7_isOf_25 M 81 (nI l) (nI s) (b2i true) (nI i) = some (.inr (1, nI (i + 1))) := by
              unfold z_X7_isOf_25
              rw [hml, Option.bind_some, if_neg c1, if_neg b1, r3, Option.bind_some, e2, as, Option.bind_some, Option.bind_some, hwo, Option.bind_some, e3, aw, Option.bind_some, if_pos (hc.mpr hq)]
              unfold j_X7_isOf_73
              rw [e1]
            simp only [hst]
            rw [decide_eq_true hq] at hih
            exact hih
          · have hst : z_X7_isOf_25 M 81 (nI l) (nI s) (b2i true) (nI i) = some (.inr (0, nI (i + 1))) := by
              unfold z_X7_isOf_25
              rw [hml, Option.bind_some, if_neg c1, if_neg b1, r3, Option.bind_some, e2, as, Option.bind_some, Option.bind_some, hwo, Option.bind_some, e3, aw, Option.bind_some, if_neg (fun e => hq (hc.mp e))]
              unfold j_X7_isOf_73
              rw [e1]
            simp only [hst]
            rw [decide_eq_false hq] at hih
            exact hih
    have := key (dg l).length FU 0 (by omega) (show (dg l).length < 4000 by omega)
    rw [show eqU T s l 0 = true from rfl] at this
    rw [show ((1 : Int32), (0 : Int32)) = (b2i true, nI 0) from rfl, this]
    congr 2
    cases he : eqU T s l (dg l).length with
    | true => exact (decide_eq_true (shK_eq.mpr ⟨hn, he⟩)).symm
    | false => exact (decide_eq_false (fun h => by rw [(shK_eq.mp h).2] at he; cases he)).symm
  · rw [if_neg (fun e => hn (hz.mp e)), decide_eq_false (fun h => hn (shK_eq.mp h).1)]
    have c1 : ¬ nI (dg l).length ≤ 0 := fun e => by have := (nI_leI (b := 0) (by omega) (by omega)).mp e; omega
    simp [FU, lp, z_X7_isOf_25, hml, c1, b2i]
noncomputable def ask (T : TG) (l s m : Nat) : Bool := near T l 0 m && decide (shK T s = kinds T m)
theorem c_countAsked {M : MM} {T : TG} {sp dr : Nat} (L : LAY M sp dr) (hT : TOK T) (hS : SAY M T) {l s : Nat} (hl : l < 1000) (hL : isL T l = true) (hs : s < tNs T) : f_X1_countAsked M 3 (nI l) (nI (rowN (shK T s))) = some (cntI (ask T l s) (Lt T)) := by
  have hN := L.1
  simp only [f_X1_countAsked, hN, kdv_3]
  rw [if_pos (by decide)]
  refine lp_cls (T := T) (mk := fun A c => (cntI (ask T l s) A, c)) (fun m h1 h2 hb => ?_) (fun m h1 h2 hb => ?_) ?_
  · have c1 : ¬ 1000 ≤ m := by omega
    have c2 : m < 2147483648 := by omega
    have e1 : nI m + 1 = nI (m + 1) := nI_1 _
    have hn : near T l 0 m = false := by simp [near, hb]
    simp [z_X1_countAsked_5, l_le_n, c1, c2, c_isAns L hT hS hl h2 hL, hn, b2i, j_X1_countAsked_37, e1]
  · have c1 : ¬ 1000 ≤ m := by omega
    have c2 : m < 2147483648 := by omega
    have e1 : nI m + 1 = nI (m + 1) := nI_1 _
    obtain ⟨t5, -, -, -, -, -⟩ := hS.2.2.1 m h2 (isL_row hb)
    have hq := rowN_eq hT hs (isL_row hb)
    have hca := c_isAns L hT hS hl h2 hL
    rw [cntI_app, cntS, ask]
    generalize nI (rowN (shK T s)) = R at hq ⊢
    generalize nI (rowN (kinds T m)) = R2 at hq t5
    have hq2 : (R2 = R) ↔ shK T s = kinds T m := ⟨fun e => hq.mp e.symm, fun e => (hq.mpr e).symm⟩
    generalize near T l 0 m = nv at hca
    cases nv
    · simp [z_X1_countAsked_5, l_le_n, c1, c2, hca, b2i, j_X1_countAsked_37, e1]
    · by_cases hk : shK T s = kinds T m
      · simp [z_X1_countAsked_5, fI_e, aI_l, aZ_l, aR_l, waI_l, waZ_l, fJ_e, fR_e, wfI_e, wfZ_e, wfJ_e, wfR_e, aI_e, aZ_e, aJ_e, aR_e, waI_e, waZ_e, waJ_e, n_sI, n_sJ, n_sR, gI_sI, gI_sJ, gI_sR, gJ_sI, gJ_sJ, gJ_sR, gR_sI, gR_sJ, gR_sR, Option.bind_some, Option.map_some, kdv_0, kdv_1, kdv_2, kdv_3, kdv_4, kdv_5, kdv_6, kdv_7, kdv_8, kdv_9, kdv_10, kdv_11, kdv_12, kdv_13, kdv_14, kdv_15, kdv_16, kdv_17, kdv_18, kdv_19, kdv_20, kdv_21, kdv_22, kdv_23, kdv_24, kdv_25, kdv_26, kdv_27, kdv_28, kdv_29, kdv_30, kdv_31, kdv_32, kdv_33, kdv_34, kdv_35, kdv_36, kdv_37, kdv_38, kdv_39, kdv_40, kdv_41, kdv_42, kdv_43, kdv_44, kdv_45, kdv_46, kdv_47, kdv_48, kdv_49, kdv_50, kdv_51, kdv_52, kdv_53, kdv_54, kdv_55, kdv_56, kdv_57, kdv_58, kdv_59, kdv_60, kdv_61, kdv_62, kdv_63, kdv_64, kdv_65, kdv_66, kdv_67, kdv_68, kdv_69, kdv_70, kdv_71, kdv_72, kdv_73, kdv_74, kdv_75, kdv_76, kdv_77, kdv_78, kdv_79, kdv_80, kdv_81, kdv_82, kdv_83, kdv_84, kdv_85, kdv_86, kdv_87, kdv_88, kdv_89, kdv_90, kdv_91, kdv_92, lnv_2, lnv_4, lnv_5, lnv_6, lnv_7, lnv_8, lnv_9, lnv_10, lnv_11, lnv_12, lnv_13, lnv_14, lnv_15, lnv_17, lnv_18, lnv_20, lnv_22, lnv_24, lnv_25, lnv_53, lnv_54, lnv_82, lnv_83, lnv_84, lnv_85, lnv_86, lnv_87, lnv_88, lnv_89, lnv_90, lnv_91, lnv_92, hN, (ly_0_0 L), (ly_0_1 L), (ly_0_2 L), (ly_0_3 L), (ly_0_4 L), (ly_0_5 L), (ly_1_0 L), (ly_3_0 L), (ly_3_1 L), (ly_3_2 L), (ly_3_3 L), (ly_3_4 L), (ly_3_5 L), (ly_3_6 L), (ly_3_7 L), (ly_3_8 L), (ly_3_10 L), (ly_3_11 L), (ly_3_12 L), (ly_16_0 L), (ly_18_0 L), (ly_18_1 L), (ly_19_0 L), (ly_21_0 L), (ly_81_1 L), (ly_81_3 L), (ly_81_4 L), (ly_81_5 L), (ly_81_6 L), (ly_81_7 L), (ly_81_8 L), (ly_81_9 L), (ly_81_10 L), (ly_81_11 L), (ly_81_17 L), l_le_n, c1, c2, h2, hca, b2i, j_X1_countAsked_37, e1, t5, hq2, hk]
      · simp [z_X1_countAsked_5, fI_e, aI_l, aZ_l, aR_l, waI_l, waZ_l, fJ_e, fR_e, wfI_e, wfZ_e, wfJ_e, wfR_e, aI_e, aZ_e, aJ_e, aR_e, waI_e, waZ_e, waJ_e, n_sI, n_sJ, n_sR, gI_sI, gI_sJ, gI_sR, gJ_sI, gJ_sJ, gJ_sR, gR_sI, gR_sJ, gR_sR, Option.bind_some, Option.map_some, kdv_0, kdv_1, kdv_2, kdv_3, kdv_4, kdv_5, kdv_6, kdv_7, kdv_8, kdv_9, kdv_10, kdv_11, kdv_12, kdv_13, kdv_14, kdv_15, kdv_16, kdv_17, kdv_18, kdv_19, kdv_20, kdv_21, kdv_22, kdv_23, kdv_24, kdv_25, kdv_26, kdv_27, kdv_28, kdv_29, kdv_30, kdv_31, kdv_32, kdv_33, kdv_34, kdv_35, kdv_36, kdv_37, kdv_38, kdv_39, kdv_40, kdv_41, kdv_42, kdv_43, kdv_44, kdv_45, kdv_46, kdv_47, kdv_48, kdv_49, kdv_50, kdv_51, kdv_52, kdv_53, kdv_54, kdv_55, kdv_56, kdv_57, kdv_58, kdv_59, kdv_60, kdv_61, kdv_62, kdv_63, kdv_64, kdv_65, kdv_66, kdv_67, kdv_68, kdv_69, kdv_70, kdv_71, kdv_72, kdv_73, kdv_74, kdv_75, kdv_76, kdv_77, kdv_78, kdv_79, kdv_80, kdv_81, kdv_82, kdv_83, kdv_84, kdv_85, kdv_86, kdv_87, kdv_88, kdv_89, kdv_90, kdv_91, kdv_92, lnv_2, lnv_4, lnv_5, lnv_6, lnv_7, lnv_8, lnv_9, lnv_10, lnv_11, lnv_12, lnv_13, lnv_14, lnv_15, lnv_17, lnv_18, lnv_20, lnv_22, lnv_24, lnv_25, lnv_53, lnv_54, lnv_82, lnv_83, lnv_84, lnv_85, lnv_86, lnv_87, lnv_88, lnv_89, lnv_90, lnv_91, lnv_92, hN, (ly_0_0 L), (ly_0_1 L), (ly_0_2 L), (ly_0_3 L), (ly_0_4 L), (ly_0_5 L), (ly_1_0 L), (ly_3_0 L), (ly_3_1 L), (ly_3_2 L), (ly_3_3 L), (ly_3_4 L), (ly_3_5 L), (ly_3_6 L), (ly_3_7 L), (ly_3_8 L), (ly_3_10 L), (ly_3_11 L), (ly_3_12 L), (ly_16_0 L), (ly_18_0 L), (ly_18_1 L), (ly_19_0 L), (ly_21_0 L), (ly_81_1 L), (ly_81_3 L), (ly_81_4 L), (ly_81_5 L), (ly_81_6 L), (ly_81_7 L), (ly_81_8 L), (ly_81_9 L), (ly_81_10 L), (ly_81_11 L), (ly_81_17 L), l_le_n, c1, c2, h2, hca, b2i, j_X1_countAsked_37, e1, t5, hq2, hk]
  · simp [z_X1_countAsked_5]
theorem eq_asked {M : MM} {T : TG} {sp dr : Nat} (I : Inv M T sp dr) (x y : Int32) : ∃ r, f_X6_asked M 0 x y = some r ∧ f_X7_asked M 81 x y = some r := by
  obtain ⟨L, hT, hC, hM, hS, hLs, hX, hP, hI0, hI1, hJ⟩ := id I
  have hN := L.1
  obtain ⟨n, hn, x1, x2, x3⟩ := hX
  obtain ⟨k, hk, p1, p2, p3⟩ := hP
  have hst : sp = 23 ∨ sp = 52 := by rcases L.2.1 with ⟨h, -⟩ | ⟨h, -⟩ <;> omega
  obtain ⟨ks0, ks1, ks2, ks3, ks4, ks5, ks6, ks7, ks8⟩ := tkf hst
  obtain ⟨lt0, lt1, lt2, lt3⟩ := ly_t L sp hst

  have hcs := c_isShape I y
  have hms := m_isShape I y
  rcases let_cases T x with h | ⟨j, hj, rfl⟩
  · exact ⟨-1, by simp [f_X6_asked, fI_e, aI_l, aZ_l, aR_l, waI_l, waZ_l, fJ_e, fR_e, wfI_e, wfZ_e, wfJ_e, wfR_e, aI_e, aZ_e, aJ_e, aR_e, waI_e, waZ_e, waJ_e, n_sI, n_sJ, n_sR, gI_sI, gI_sJ, gI_sR, gJ_sI, gJ_sJ, gJ_sR, gR_sI, gR_sJ, gR_sR, Option.bind_some, Option.map_some, kdv_0, kdv_1, kdv_2, kdv_3, kdv_4, kdv_5, kdv_6, kdv_7, kdv_8, kdv_9, kdv_10, kdv_11, kdv_12, kdv_13, kdv_14, kdv_15, kdv_16, kdv_17, kdv_18, kdv_19, kdv_20, kdv_21, kdv_22, kdv_23, kdv_24, kdv_25, kdv_26, kdv_27, kdv_28, kdv_29, kdv_30, kdv_31, kdv_32, kdv_33, kdv_34, kdv_35, kdv_36, kdv_37, kdv_38, kdv_39, kdv_40, kdv_41, kdv_42, kdv_43, kdv_44, kdv_45, kdv_46, kdv_47, kdv_48, kdv_49, kdv_50, kdv_51, kdv_52, kdv_53, kdv_54, kdv_55, kdv_56, kdv_57, kdv_58, kdv_59, kdv_60, kdv_61, kdv_62, kdv_63, kdv_64, kdv_65, kdv_66, kdv_67, kdv_68, kdv_69, kdv_70, kdv_71, kdv_72, kdv_73, kdv_74, kdv_75, kdv_76, kdv_77, kdv_78, kdv_79, kdv_80, kdv_81, kdv_82, kdv_83, kdv_84, kdv_85, kdv_86, kdv_87, kdv_88, kdv_89, kdv_90, kdv_91, kdv_92, lnv_2, lnv_4, lnv_5, lnv_6, lnv_7, lnv_8, lnv_9, lnv_10, lnv_11, lnv_12, lnv_13, lnv_14, lnv_15, lnv_17, lnv_18, lnv_20, lnv_22, lnv_24, lnv_25, lnv_53, lnv_54, lnv_82, lnv_83, lnv_84, lnv_85, lnv_86, lnv_87, lnv_88, lnv_89, lnv_90, lnv_91, lnv_92, hN, (ly_0_0 L), (ly_0_1 L), (ly_0_2 L), (ly_0_3 L), (ly_0_4 L), (ly_0_5 L), (ly_1_0 L), (ly_3_0 L), (ly_3_1 L), (ly_3_2 L), (ly_3_3 L), (ly_3_4 L), (ly_3_5 L), (ly_3_6 L), (ly_3_7 L), (ly_3_8 L), (ly_3_10 L), (ly_3_11 L), (ly_3_12 L), (ly_16_0 L), (ly_18_0 L), (ly_18_1 L), (ly_19_0 L), (ly_21_0 L), (ly_81_1 L), (ly_81_3 L), (ly_81_4 L), (ly_81_5 L), (ly_81_6 L), (ly_81_7 L), (ly_81_8 L), (ly_81_9 L), (ly_81_10 L), (ly_81_11 L), (ly_81_17 L), c_can_no L hS h], by simp [f_X7_asked, hN, kdv_81, m_place_no L hLs h]⟩
  · have hlen := Lt_819 (T := T)
    obtain ⟨hl, hLj⟩ := Lt_at hj
    have hc := c_can L hS hl
    rw [hLj] at hc
    have hp := m_place_at L hLs hj
    have hnm : ¬ nI j = -9 := nI_nm (by omega) (by decide)
    have hb1 : b2i true = 1 := rfl
    rw [hb1] at hc
    rcases isw_cases (n := tNs T) (by have := hT.2.1; omega) y with hw | ⟨s, hs, rfl, hw⟩
    · rw [hw] at hcs hms
      exact ⟨-1, by simp [f_X6_asked, fI_e, aI_l, aZ_l, aR_l, waI_l, waZ_l, fJ_e, fR_e, wfI_e, wfZ_e, wfJ_e, wfR_e, aI_e, aZ_e, aJ_e, aR_e, waI_e, waZ_e, waJ_e, n_sI, n_sJ, n_sR, gI_sI, gI_sJ, gI_sR, gJ_sI, gJ_sJ, gJ_sR, gR_sI, gR_sJ, gR_sR, Option.bind_some, Option.map_some, kdv_0, kdv_1, kdv_2, kdv_3, kdv_4, kdv_5, kdv_6, kdv_7, kdv_8, kdv_9, kdv_10, kdv_11, kdv_12, kdv_13, kdv_14, kdv_15, kdv_16, kdv_17, kdv_18, kdv_19, kdv_20, kdv_21, kdv_22, kdv_23, kdv_24, kdv_25, kdv_26, kdv_27, kdv_28, kdv_29, kdv_30, kdv_31, kdv_32, kdv_33, kdv_34, kdv_35, kdv_36, kdv_37, kdv_38, kdv_39, kdv_40, kdv_41, kdv_42, kdv_43, kdv_44, kdv_45, kdv_46, kdv_47, kdv_48, kdv_49, kdv_50, kdv_51, kdv_52, kdv_53, kdv_54, kdv_55, kdv_56, kdv_57, kdv_58, kdv_59, kdv_60, kdv_61, kdv_62, kdv_63, kdv_64, kdv_65, kdv_66, kdv_67, kdv_68, kdv_69, kdv_70, kdv_71, kdv_72, kdv_73, kdv_74, kdv_75, kdv_76, kdv_77, kdv_78, kdv_79, kdv_80, kdv_81, kdv_82, kdv_83, kdv_84, kdv_85, kdv_86, kdv_87, kdv_88, kdv_89, kdv_90, kdv_91, kdv_92, lnv_2, lnv_4, lnv_5, lnv_6, lnv_7, lnv_8, lnv_9, lnv_10, lnv_11, lnv_12, lnv_13, lnv_14, lnv_15, lnv_17, lnv_18, lnv_20, lnv_22, lnv_24, lnv_25, lnv_53, lnv_54, lnv_82, lnv_83, lnv_84, lnv_85, lnv_86, lnv_87, lnv_88, lnv_89, lnv_90, lnv_91, lnv_92, hN, (ly_0_0 L), (ly_0_1 L), (ly_0_2 L), (ly_0_3 L), (ly_0_4 L), (ly_0_5 L), (ly_1_0 L), (ly_3_0 L), (ly_3_1 L), (ly_3_2 L), (ly_3_3 L), (ly_3_4 L), (ly_3_5 L), (ly_3_6 L), (ly_3_7 L), (ly_3_8 L), (ly_3_10 L), (ly_3_11 L), (ly_3_12 L), (ly_16_0 L), (ly_18_0 L), (ly_18_1 L), (ly_19_0 L), (ly_21_0 L), (ly_81_1 L), (ly_81_3 L), (ly_81_4 L), (ly_81_5 L), (ly_81_6 L), (ly_81_7 L), (ly_81_8 L), (ly_81_9 L), (ly_81_10 L), (ly_81_11 L), (ly_81_17 L), hc, hcs], by simp [f_X7_asked, hN, kdv_81, hp, hnm, hms]⟩
    · rw [hw] at hcs hms
      have hs4 : s < 4 := by have := hT.2.1; omega
      have hcc := c_countAsked L hT hS hl hLj hs
      have hrow := c_row L hst hT hC hs
      have hm : f_X7_asked M 81 (nI (Lt T)[j]) (nI s) = some (cntI (ask T (Lt T)[j] s) (Lt T)) := by
        simp only [f_X7_asked, hN, kdv_81]
        rw [if_pos (by decide)]
        simp only [hp, Option.bind_some, if_neg hnm, hms]
        rw [if_neg (by decide)]
        refine lp_ref (T := T) (mk := fun A c => (cntI (ask T (Lt T)[j] s) A, c)) (fun k hk => ?_) ?_
        · have c1 : ¬ nI (Lt T).length ≤ nI k := fun e => by have := (nI_leI (by omega) (by omega)).mp e; omega
          have e1 : nI k + 1 = nI (k + 1) := nI_1 k
          have bk : k < 820 := by omega
          have ha := m_answer (s := 0) L hT hLs hj hk (by decide)
          rw [n00] at ha
          have t := (hLs.2 k hk).1
          have hmk := Lt_at hk
          have hio := m_isOf L hT hM hmk.1 (isL_row hmk.2) hs
          rw [cntI_app, cntS, ask]
          generalize near T (Lt T)[j] 0 (Lt T)[k] = nv at ha
          generalize decide (shK T s = kinds T (Lt T)[k]) = kv at hio
          generalize (Lt T)[k] = m at t hio
          cases nv
          · simp [z_X7_asked_28, fI_e, aI_l, aZ_l, aR_l, waI_l, waZ_l, fJ_e, fR_e, wfI_e, wfZ_e, wfJ_e, wfR_e, aI_e, aZ_e, aJ_e, aR_e, waI_e, waZ_e, waJ_e, n_sI, n_sJ, n_sR, gI_sI, gI_sJ, gI_sR, gJ_sI, gJ_sJ, gJ_sR, gR_sI, gR_sJ, gR_sR, Option.bind_some, Option.map_some, kdv_0, kdv_1, kdv_2, kdv_3, kdv_4, kdv_5, kdv_6, kdv_7, kdv_8, kdv_9, kdv_10, kdv_11, kdv_12, kdv_13, kdv_14, kdv_15, kdv_16, kdv_17, kdv_18, kdv_19, kdv_20, kdv_21, kdv_22, kdv_23, kdv_24, kdv_25, kdv_26, kdv_27, kdv_28, kdv_29, kdv_30, kdv_31, kdv_32, kdv_33, kdv_34, kdv_35, kdv_36, kdv_37, kdv_38, kdv_39, kdv_40, kdv_41, kdv_42, kdv_43, kdv_44, kdv_45, kdv_46, kdv_47, kdv_48, kdv_49, kdv_50, kdv_51, kdv_52, kdv_53, kdv_54, kdv_55, kdv_56, kdv_57, kdv_58, kdv_59, kdv_60, kdv_61, kdv_62, kdv_63, kdv_64, kdv_65, kdv_66, kdv_67, kdv_68, kdv_69, kdv_70, kdv_71, kdv_72, kdv_73, kdv_74, kdv_75, kdv_76, kdv_77, kdv_78, kdv_79, kdv_80, kdv_81, kdv_82, kdv_83, kdv_84, kdv_85, kdv_86, kdv_87, kdv_88, kdv_89, kdv_90, kdv_91, kdv_92, lnv_2, lnv_4, lnv_5, lnv_6, lnv_7, lnv_8, lnv_9, lnv_10, lnv_11, lnv_12, lnv_13, lnv_14, lnv_15, lnv_17, lnv_18, lnv_20, lnv_22, lnv_24, lnv_25, lnv_53, lnv_54, lnv_82, lnv_83, lnv_84, lnv_85, lnv_86, lnv_87, lnv_88, lnv_89, lnv_90, lnv_91, lnv_92, hN, hLs.1, c1, ha, b2i, j_X7_asked_69, j_X7_asked_70, e1]
          · cases kv
            · simp [z_X7_asked_28, fI_e, aI_l, aZ_l, aR_l, waI_l, waZ_l, fJ_e, fR_e, wfI_e, wfZ_e, wfJ_e, wfR_e, aI_e, aZ_e, aJ_e, aR_e, waI_e, waZ_e, waJ_e, n_sI, n_sJ, n_sR, gI_sI, gI_sJ, gI_sR, gJ_sI, gJ_sJ, gJ_sR, gR_sI, gR_sJ, gR_sR, Option.bind_some, Option.map_some, kdv_0, kdv_1, kdv_2, kdv_3, kdv_4, kdv_5, kdv_6, kdv_7, kdv_8, kdv_9, kdv_10, kdv_11, kdv_12, kdv_13, kdv_14, kdv_15, kdv_16, kdv_17, kdv_18, kdv_19, kdv_20, kdv_21, kdv_22, kdv_23, kdv_24, kdv_25, kdv_26, kdv_27, kdv_28, kdv_29, kdv_30, kdv_31, kdv_32, kdv_33, kdv_34, kdv_35, kdv_36, kdv_37, kdv_38, kdv_39, kdv_40, kdv_41, kdv_42, kdv_43, kdv_44, kdv_45, kdv_46, kdv_47, kdv_48, kdv_49, kdv_50, kdv_51, kdv_52, kdv_53, kdv_54, kdv_55, kdv_56, kdv_57, kdv_58, kdv_59, kdv_60, kdv_61, kdv_62, kdv_63, kdv_64, kdv_65, kdv_66, kdv_67, kdv_68, kdv_69, kdv_70, kdv_71, kdv_72, kdv_73, kdv_74, kdv_75, kdv_76, kdv_77, kdv_78, kdv_79, kdv_80, kdv_81, kdv_82, kdv_83, kdv_84, kdv_85, kdv_86, kdv_87, kdv_88, kdv_89, kdv_90, kdv_91, kdv_92, lnv_2, lnv_4, lnv_5, lnv_6, lnv_7, lnv_8, lnv_9, lnv_10, lnv_11, lnv_12, lnv_13, lnv_14, lnv_15, lnv_17, lnv_18, lnv_20, lnv_22, lnv_24, lnv_25, lnv_53, lnv_54, lnv_82, lnv_83, lnv_84, lnv_85, lnv_86, lnv_87, lnv_88, lnv_89, lnv_90, lnv_91, lnv_92, hN, (ly_81_8 L), hLs.1, c1, ha, b2i, bk, t, hio, j_X7_asked_69, j_X7_asked_70, e1]
            · simp [z_X7_asked_28, fI_e, aI_l, aZ_l, aR_l, waI_l, waZ_l, fJ_e, fR_e, wfI_e, wfZ_e, wfJ_e, wfR_e, aI_e, aZ_e, aJ_e, aR_e, waI_e, waZ_e, waJ_e, n_sI, n_sJ, n_sR, gI_sI, gI_sJ, gI_sR, gJ_sI, gJ_sJ, gJ_sR, gR_sI, gR_sJ, gR_sR, Option.bind_some, Option.map_some, kdv_0, kdv_1, kdv_2, kdv_3, kdv_4, kdv_5, kdv_6, kdv_7, kdv_8, kdv_9, kdv_10, kdv_11, kdv_12, kdv_13, kdv_14, kdv_15, kdv_16, kdv_17, kdv_18, kdv_19, kdv_20, kdv_21, kdv_22, kdv_23, kdv_24, kdv_25, kdv_26, kdv_27, kdv_28, kdv_29, kdv_30, kdv_31, kdv_32, kdv_33, kdv_34, kdv_35, kdv_36, kdv_37, kdv_38, kdv_39, kdv_40, kdv_41, kdv_42, kdv_43, kdv_44, kdv_45, kdv_46, kdv_47, kdv_48, kdv_49, kdv_50, kdv_51, kdv_52, kdv_53, kdv_54, kdv_55, kdv_56, kdv_57, kdv_58, kdv_59, kdv_60, kdv_61, kdv_62, kdv_63, kdv_64, kdv_65, kdv_66, kdv_67, kdv_68, kdv_69, kdv_70, kdv_71, kdv_72, kdv_73, kdv_74, kdv_75, kdv_76, kdv_77, kdv_78, kdv_79, kdv_80, kdv_81, kdv_82, kdv_83, kdv_84, kdv_85, kdv_86, kdv_87, kdv_88, kdv_89, kdv_90, kdv_91, kdv_92, lnv_2, lnv_4, lnv_5, lnv_6, lnv_7, lnv_8, lnv_9, lnv_10, lnv_11, lnv_12, lnv_13, lnv_14, lnv_15, lnv_17, lnv_18, lnv_20, lnv_22, lnv_24, lnv_25, lnv_53, lnv_54, lnv_82, lnv_83, lnv_84, lnv_85, lnv_86, lnv_87, lnv_88, lnv_89, lnv_90, lnv_91, lnv_92, hN, (ly_81_8 L), hLs.1, c1, ha, b2i, bk, t, hio, j_X7_asked_69, j_X7_asked_70, e1]
        · have c1 : nI (Lt T).length ≤ nI (Lt T).length := Int32.le_refl _
          simp [z_X7_asked_28, fI_e, aI_l, aZ_l, aR_l, waI_l, waZ_l, fJ_e, fR_e, wfI_e, wfZ_e, wfJ_e, wfR_e, aI_e, aZ_e, aJ_e, aR_e, waI_e, waZ_e, waJ_e, n_sI, n_sJ, n_sR, gI_sI, gI_sJ, gI_sR, gJ_sI, gJ_sJ, gJ_sR, gR_sI, gR_sJ, gR_sR, Option.bind_some, Option.map_some, kdv_0, kdv_1, kdv_2, kdv_3, kdv_4, kdv_5, kdv_6, kdv_7, kdv_8, kdv_9, kdv_10, kdv_11, kdv_12, kdv_13, kdv_14, kdv_15, kdv_16, kdv_17, kdv_18, kdv_19, kdv_20, kdv_21, kdv_22, kdv_23, kdv_24, kdv_25, kdv_26, kdv_27, kdv_28, kdv_29, kdv_30, kdv_31, kdv_32, kdv_33, kdv_34, kdv_35, kdv_36, kdv_37, kdv_38, kdv_39, kdv_40, kdv_41, kdv_42, kdv_43, kdv_44, kdv_45, kdv_46, kdv_47, kdv_48, kdv_49, kdv_50, kdv_51, kdv_52, kdv_53, kdv_54, kdv_55, kdv_56, kdv_57, kdv_58, kdv_59, kdv_60, kdv_61, kdv_62, kdv_63, kdv_64, kdv_65, kdv_66, kdv_67, kdv_68, kdv_69, kdv_70, kdv_71, kdv_72, kdv_73, kdv_74, kdv_75, kdv_76, kdv_77, kdv_78, kdv_79, kdv_80, kdv_81, kdv_82, kdv_83, kdv_84, kdv_85, kdv_86, kdv_87, kdv_88, kdv_89, kdv_90, kdv_91, kdv_92, lnv_2, lnv_4, lnv_5, lnv_6, lnv_7, lnv_8, lnv_9, lnv_10, lnv_11, lnv_12, lnv_13, lnv_14, lnv_15, lnv_17, lnv_18, lnv_20, lnv_22, lnv_24, lnv_25, lnv_53, lnv_54, lnv_82, lnv_83, lnv_84, lnv_85, lnv_86, lnv_87, lnv_88, lnv_89, lnv_90, lnv_91, lnv_92, hN, hLs.1, c1]
      refine ⟨_, ?_, hm⟩
      have hsp : sp < 93 := ks8
      have r1 : fR M sp 4 1 = some (sp + 2) := by rw [fR_e hN ks8 (by rw [ks1]; rfl)]; exact lt1
      have a1 : aR M (sp + 2) 12 (nI s) = some (sp + 21 + 2 * s) := by rw [aR_e hN (by omega) (by rw [ks4]; rfl) (by rw [ks5]; omega)]; exact (lt3 s hs4).1
      simp [f_X6_asked, fI_e, aI_l, aZ_l, aR_l, waI_l, waZ_l, fJ_e, fR_e, wfI_e, wfZ_e, wfJ_e, wfR_e, aI_e, aZ_e, aJ_e, aR_e, waI_e, waZ_e, waJ_e, n_sI, n_sJ, n_sR, gI_sI, gI_sJ, gI_sR, gJ_sI, gJ_sJ, gJ_sR, gR_sI, gR_sJ, gR_sR, Option.bind_some, Option.map_some, kdv_0, kdv_1, kdv_2, kdv_3, kdv_4, kdv_5, kdv_6, kdv_7, kdv_8, kdv_9, kdv_10, kdv_11, kdv_12, kdv_13, kdv_14, kdv_15, kdv_16, kdv_17, kdv_18, kdv_19, kdv_20, kdv_21, kdv_22, kdv_23, kdv_24, kdv_25, kdv_26, kdv_27, kdv_28, kdv_29, kdv_30, kdv_31, kdv_32, kdv_33, kdv_34, kdv_35, kdv_36, kdv_37, kdv_38, kdv_39, kdv_40, kdv_41, kdv_42, kdv_43, kdv_44, kdv_45, kdv_46, kdv_47, kdv_48, kdv_49, kdv_50, kdv_51, kdv_52, kdv_53, kdv_54, kdv_55, kdv_56, kdv_57, kdv_58, kdv_59, kdv_60, kdv_61, kdv_62, kdv_63, kdv_64, kdv_65, kdv_66, kdv_67, kdv_68, kdv_69, kdv_70, kdv_71, kdv_72, kdv_73, kdv_74, kdv_75, kdv_76, kdv_77, kdv_78, kdv_79, kdv_80, kdv_81, kdv_82, kdv_83, kdv_84, kdv_85, kdv_86, kdv_87, kdv_88, kdv_89, kdv_90, kdv_91, kdv_92, lnv_2, lnv_4, lnv_5, lnv_6, lnv_7, lnv_8, lnv_9, lnv_10, lnv_11, lnv_12, lnv_13, lnv_14, lnv_15, lnv_17, lnv_18, lnv_20, lnv_22, lnv_24, lnv_25, lnv_53, lnv_54, lnv_82, lnv_83, lnv_84, lnv_85, lnv_86, lnv_87, lnv_88, lnv_89, lnv_90, lnv_91, lnv_92, hN, (ly_0_0 L), (ly_0_1 L), (ly_0_2 L), (ly_0_3 L), (ly_0_4 L), (ly_0_5 L), (ly_1_0 L), (ly_3_0 L), (ly_3_1 L), (ly_3_2 L), (ly_3_3 L), (ly_3_4 L), (ly_3_5 L), (ly_3_6 L), (ly_3_7 L), (ly_3_8 L), (ly_3_10 L), (ly_3_11 L), (ly_3_12 L), (ly_16_0 L), (ly_18_0 L), (ly_18_1 L), (ly_19_0 L), (ly_21_0 L), (ly_81_1 L), (ly_81_3 L), (ly_81_4 L), (ly_81_5 L), (ly_81_6 L), (ly_81_7 L), (ly_81_8 L), (ly_81_9 L), (ly_81_10 L), (ly_81_11 L), (ly_81_17 L), hc, hcs, r1, a1, hrow, hcc]
