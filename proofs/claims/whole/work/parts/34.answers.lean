/-! PURE: the loops over all letters on both sides -/
theorem lp_cls {S β : Type} {T : TG} {z : S → Option (β ⊕ S)} (mk : List Nat → Int32 → S) {b : β} (hno : ∀ l, 1 ≤ l → l < 1000 → isL T l = false → z (mk (LB T l) (nI l)) = some (.inr (mk (LB T l) (nI (l + 1))))) (hyes : ∀ l, 1 ≤ l → l < 1000 → isL T l = true → z (mk (LB T l) (nI l)) = some (.inr (mk (LB T l ++ [l]) (nI (l + 1))))) (hend : z (mk (Lt T) 1000) = some (.inl b)) : lp z FU (mk [] 1) = some b := by
  have h0 : mk [] 1 = mk (LB T (0 + 1)) (nI (0 + 1)) := by rw [LB_one]; rfl
  rw [h0]
  refine lp_run (st := fun i => mk (LB T (i + 1)) (nI (i + 1))) 999 (fun i hi => ?_) ?_ FU (show 999 < 4000 by omega)
  · cases hb : isL T (i + 1) with
    | false =>
      show z (mk (LB T (i + 1)) (nI (i + 1))) = some (.inr (mk (LB T (i + 1 + 1)) (nI (i + 1 + 1))))
      rw [hno (i + 1) (by omega) (by omega) hb, LB_no hb]
    | true =>
      show z (mk (LB T (i + 1)) (nI (i + 1))) = some (.inr (mk (LB T (i + 1 + 1)) (nI (i + 1 + 1))))
      rw [hyes (i + 1) (by omega) (by omega) hb, LB_yes hb]
  · show z (mk (LB T (999 + 1)) (nI (999 + 1))) = _
    rw [show 999 + 1 = 1000 from rfl, LB_all]
    exact hend
theorem lp_ref {S β : Type} {T : TG} {z : S → Option (β ⊕ S)} (mk : List Nat → Int32 → S) {b : β} (hs : ∀ k (h : k < (Lt T).length), z (mk ((Lt T).take k) (nI k)) = some (.inr (mk ((Lt T).take k ++ [(Lt T)[k]]) (nI (k + 1))))) (hend : z (mk (Lt T) (nI (Lt T).length)) = some (.inl b)) : lp z FU (mk [] 0) = some b := by
  have hlen := Lt_819 (T := T)
  have h0 : mk [] 0 = mk ((Lt T).take 0) (nI 0) := rfl
  rw [h0]
  refine lp_run (st := fun k => mk ((Lt T).take k) (nI k)) (Lt T).length (fun k hk => ?_) ?_ FU (show (Lt T).length < 4000 by omega)
  · show z (mk ((Lt T).take k) (nI k)) = some (.inr (mk ((Lt T).take (k + 1)) (nI (k + 1))))
    rw [hs k hk, take_next hk]
  · show z (mk ((Lt T).take (Lt T).length) _) = _
    rw [List.take_length]
    exact hend
theorem tk_mem {T : TG} {k m : Nat} (h : m ∈ (Lt T).take k) : m < 1000 ∧ isL T m = true := Lt_mem.mp (List.mem_of_mem_take h)
theorem LB_mem {T : TG} {i m : Nat} (hi : i ≤ 1000) (h : m ∈ LB T i) : m < 1000 ∧ isL T m = true := by
  unfold LB at h
  have := List.mem_filter.mp h
  exact ⟨by have := List.mem_range.mp this.1; omega, this.2⟩
def cntS (p : Nat → Bool) (a : Int32) (m : Nat) : Int32 := if p m = true then a + 1 else a
def cntI (p : Nat → Bool) (A : List Nat) : Int32 := A.foldl (cntS p) 0
theorem cntI_app {p : Nat → Bool} {A : List Nat} {l : Nat} : cntI p (A ++ [l]) = cntS p (cntI p A) l := by simp [cntI, List.foldl_append]
def pickS (T : TG) (p : Nat → Bool) (b m : Nat) : Nat := if p m = true ∧ (b = 0 ∨ ownL T b < ownL T m) then m else b
theorem pick_app {T : TG} {p : Nat → Bool} {A : List Nat} {l : Nat} : pick T p (A ++ [l]) = pickS T p (pick T p A) l := by
  unfold pick
  rw [List.foldl_append]
  rfl
theorem pick_fold {T : TG} {p : Nat → Bool} : ∀ (A : List Nat) (b : Nat), A.foldl (pickS T p) b = b ∨ (A.foldl (pickS T p) b ∈ A ∧ p (A.foldl (pickS T p) b) = true)
  | [], _ => Or.inl rfl
  | a :: A, b => by
    rw [List.foldl_cons]
    rcases pick_fold A (pickS T p b a) with h | ⟨h1, h2⟩
    · by_cases hc : p a = true ∧ (b = 0 ∨ ownL T b < ownL T a)
      · have e : pickS T p b a = a := if_pos hc
        rw [h, e]
        exact Or.inr ⟨by simp, hc.1⟩
      · have e : pickS T p b a = b := if_neg hc
        rw [h, e]
        exact Or.inl rfl
    · exact Or.inr ⟨by simp [h1], h2⟩
theorem pick_mem {T : TG} {p : Nat → Bool} (A : List Nat) : pick T p A = 0 ∨ (pick T p A ∈ A ∧ p (pick T p A) = true) := pick_fold A 0
theorem pick_cg {T : TG} {p q : Nat → Bool} : ∀ (A : List Nat) (b : Nat), (∀ m ∈ A, p m = q m) → A.foldl (pickS T p) b = A.foldl (pickS T q) b
  | [], _, _ => rfl
  | a :: A, b, h => by
    rw [List.foldl_cons, List.foldl_cons, show pickS T p b a = pickS T q b a by unfold pickS; rw [h a (by simp)]]
    exact pick_cg A _ (fun m hm => h m (by simp [hm]))
theorem pick_congr {T : TG} {p q : Nat → Bool} {A : List Nat} (h : ∀ m ∈ A, p m = q m) : pick T p A = pick T q A := pick_cg A 0 h
def nb (b : Nat) : Int32 := if b = 0 then -9 else nI b
def nw (T : TG) (b : Nat) : Int32 := if b = 0 then -1 else nI (ownL T b)
def pl (T : TG) (b : Nat) : Int32 := if b = 0 then -9 else nI (LB T b).length
theorem nw_le {T : TG} {b x : Nat} (hT : TOK T) (hb : b = 0 ∨ isL T b = true) (hx : x ≤ 27) : (nI x ≤ nw T b) ↔ ¬ (b = 0 ∨ ownL T b < x) := by
  unfold nw
  by_cases h : b = 0
  · subst h
    simp only [if_true, true_or, not_true_eq_false, iff_false]
    intro e
    have e2 : nI x < 0 := Int32.lt_of_le_of_lt e (by decide)
    exact nI_pos (by omega) e2
  · rw [if_neg h]
    have hr := ownL_le hT (isL_row (hb.resolve_left h))
    have e : (nI x ≤ nI (ownL T b)) ↔ x ≤ ownL T b := nI_leI (by omega) (by omega)
    rw [e]
    omega
theorem pick_LB {T : TG} {p : Nat → Bool} {i : Nat} (hi : i ≤ 1000) : pick T p (LB T i) = 0 ∨ isL T (pick T p (LB T i)) = true := (pick_mem (LB T i)).imp id fun h => (LB_mem hi h.1).2
theorem pick_Lt {T : TG} {p : Nat → Bool} : pick T p (Lt T) = 0 ∨ (pick T p (Lt T) < 1000 ∧ isL T (pick T p (Lt T)) = true ∧ p (pick T p (Lt T)) = true) := (pick_mem (Lt T)).imp id fun h => ⟨(Lt_mem.mp h.1).1, (Lt_mem.mp h.1).2, h.2⟩
theorem c_countAnswers {M : MM} {T : TG} {sp dr : Nat} (L : LAY M sp dr) (hT : TOK T) (hS : SAY M T) {l s : Nat} (hl : l < 1000) (hL : isL T l = true) (hs : s < 1000) : f_X1_countAnswers M 3 (nI l) (nI s) = some (cntI (near T l s) (Lt T)) := by
  have hN := L.1
  simp only [f_X1_countAnswers, hN, kdv_3]
  rw [if_pos (by decide)]
  refine lp_cls (T := T) (mk := fun A c => (cntI (near T l s) A, c)) (fun m h1 h2 hb => ?_) (fun m h1 h2 hb => ?_) ?_
  · have c1 : ¬ 1000 ≤ m := by omega
    have c2 : m < 2147483648 := by omega
    have e1 : nI m + 1 = nI (m + 1) := nI_1 _
    have hn : near T l s m = false := by simp [near, hb]
    simp [z_X1_countAnswers_5, l_le_n, c1, c2, c_near L hT hS hl h2 hL hs, hn, b2i, j_X1_countAnswers_27, e1]
  · have c1 : ¬ 1000 ≤ m := by omega
    have c2 : m < 2147483648 := by omega
    have e1 : nI m + 1 = nI (m + 1) := nI_1 _
    cases hn : near T l s m <;> simp [z_X1_countAnswers_5, l_le_n, c1, c2, c_near L hT hS hl h2 hL hs, hn, b2i, j_X1_countAnswers_27, e1, cntI_app, cntS]
  · simp [z_X1_countAnswers_5]
theorem c_findBest {M : MM} {T : TG} {sp dr : Nat} (L : LAY M sp dr) (hT : TOK T) (hS : SAY M T) {l s : Nat} (hl : l < 1000) (hL : isL T l = true) (hs : s < 1000) : f_X1_findBest M 3 (nI l) (nI s) = some (nb (pick T (near T l s) (Lt T))) := by
  have hN := L.1
  simp only [f_X1_findBest, hN, kdv_3]
  rw [if_pos (by decide)]
  refine lp_cls (T := T) (mk := fun A c => (nb (pick T (near T l s) A), nw T (pick T (near T l s) A), c)) (fun m h1 h2 hb => ?_) (fun m h1 h2 hb => ?_) ?_
  · have c1 : ¬ 1000 ≤ m := by omega
    have c2 : m < 2147483648 := by omega
    have e1 : nI m + 1 = nI (m + 1) := nI_1 _
    have hn : near T l s m = false := by simp [near, hb]
    simp [z_X1_findBest_9, l_le_n, c1, c2, c_near L hT hS hl h2 hL hs, hn, b2i, j_X1_findBest_52, e1]
  · have c1 : ¬ 1000 ≤ m := by omega
    have c2 : m < 2147483648 := by omega
    have e1 : nI m + 1 = nI (m + 1) := nI_1 _
    obtain ⟨-, t6, -, -, -, -⟩ := hS.2.2.1 m h2 (isL_row hb)
    have hw := nw_le (x := ownL T m) hT (pick_LB (p := near T l s) (show m ≤ 1000 by omega)) (ownL_le hT (isL_row hb))
    rw [pick_app]
    generalize hB : pick T (near T l s) (LB T m) = B at hw
    cases hn : near T l s m
    · simp [z_X1_findBest_9, l_le_n, c1, c2, c_near L hT hS hl h2 hL hs, hn, b2i, j_X1_findBest_52, e1, pickS]
    · by_cases hq : B = 0 ∨ ownL T B < ownL T m
      · have hm0 : ¬ m = 0 := by omega
        have hq2 : ¬ nI (ownL T m) ≤ nw T B := fun e => hw.mp e hq
        simp [z_X1_findBest_9, fI_e, aI_l, aZ_l, aR_l, waI_l, waZ_l, fJ_e, fR_e, wfI_e, wfZ_e, wfJ_e, wfR_e, aI_e, aZ_e, aJ_e, aR_e, waI_e, waZ_e, waJ_e, n_sI, n_sJ, n_sR, gI_sI, gI_sJ, gI_sR, gJ_sI, gJ_sJ, gJ_sR, gR_sI, gR_sJ, gR_sR, Option.bind_some, Option.map_some, kdv_0, kdv_1, kdv_2, kdv_3, kdv_4, kdv_5, kdv_6, kdv_7, kdv_8, kdv_9, kdv_10, kdv_11, kdv_12, kdv_13, kdv_14, kdv_15, kdv_16, kdv_17, kdv_18, kdv_19, kdv_20, kdv_21, kdv_22, kdv_23, kdv_24, kdv_25, kdv_26, kdv_27, kdv_28, kdv_29, kdv_30, kdv_31, kdv_32, kdv_33, kdv_34, kdv_35, kdv_36, kdv_37, kdv_38, kdv_39, kdv_40, kdv_41, kdv_42, kdv_43, kdv_44, kdv_45, kdv_46, kdv_47, kdv_48, kdv_49, kdv_50, kdv_51, kdv_52, kdv_53, kdv_54, kdv_55, kdv_56, kdv_57, kdv_58, kdv_59, kdv_60, kdv_61, kdv_62, kdv_63, kdv_64, kdv_65, kdv_66, kdv_67, kdv_68, kdv_69, kdv_70, kdv_71, kdv_72, kdv_73, kdv_74, kdv_75, kdv_76, kdv_77, kdv_78, kdv_79, kdv_80, kdv_81, kdv_82, kdv_83, kdv_84, kdv_85, kdv_86, kdv_87, kdv_88, kdv_89, kdv_90, kdv_91, kdv_92, lnv_2, lnv_4, lnv_5, lnv_6, lnv_7, lnv_8, lnv_9, lnv_10, lnv_11, lnv_12, lnv_13, lnv_14, lnv_15, lnv_17, lnv_18, lnv_20, lnv_22, lnv_24, lnv_25, lnv_53, lnv_54, lnv_82, lnv_83, lnv_84, lnv_85, lnv_86, lnv_87, lnv_88, lnv_89, lnv_90, lnv_91, lnv_92, hN, (ly_0_0 L), (ly_0_1 L), (ly_0_2 L), (ly_0_3 L), (ly_0_4 L), (ly_0_5 L), (ly_1_0 L), (ly_3_0 L), (ly_3_1 L), (ly_3_2 L), (ly_3_3 L), (ly_3_4 L), (ly_3_5 L), (ly_3_6 L), (ly_3_7 L), (ly_3_8 L), (ly_3_10 L), (ly_3_11 L), (ly_3_12 L), (ly_16_0 L), (ly_18_0 L), (ly_18_1 L), (ly_19_0 L), (ly_21_0 L), (ly_81_1 L), (ly_81_3 L), (ly_81_4 L), (ly_81_5 L), (ly_81_6 L), (ly_81_7 L), (ly_81_8 L), (ly_81_9 L), (ly_81_10 L), (ly_81_11 L), (ly_81_17 L), l_le_n, c1, c2, c_near L hT hS hl h2 hL hs, hn, b2i, j_X1_findBest_52, e1, pickS, hq, hq2, h2, t6]
        simp [nb, nw, hm0]
      · have hq2 : nI (ownL T m) ≤ nw T B := hw.mpr hq
        simp [z_X1_findBest_9, fI_e, aI_l, aZ_l, aR_l, waI_l, waZ_l, fJ_e, fR_e, wfI_e, wfZ_e, wfJ_e, wfR_e, aI_e, aZ_e, aJ_e, aR_e, waI_e, waZ_e, waJ_e, n_sI, n_sJ, n_sR, gI_sI, gI_sJ, gI_sR, gJ_sI, gJ_sJ, gJ_sR, gR_sI, gR_sJ, gR_sR, Option.bind_some, Option.map_some, kdv_0, kdv_1, kdv_2, kdv_3, kdv_4, kdv_5, kdv_6, kdv_7, kdv_8, kdv_9, kdv_10, kdv_11, kdv_12, kdv_13, kdv_14, kdv_15, kdv_16, kdv_17, kdv_18, kdv_19, kdv_20, kdv_21, kdv_22, kdv_23, kdv_24, kdv_25, kdv_26, kdv_27, kdv_28, kdv_29, kdv_30, kdv_31, kdv_32, kdv_33, kdv_34, kdv_35, kdv_36, kdv_37, kdv_38, kdv_39, kdv_40, kdv_41, kdv_42, kdv_43, kdv_44, kdv_45, kdv_46, kdv_47, kdv_48, kdv_49, kdv_50, kdv_51, kdv_52, kdv_53, kdv_54, kdv_55, kdv_56, kdv_57, kdv_58, kdv_59, kdv_60, kdv_61, kdv_62, kdv_63, kdv_64, kdv_65, kdv_66, kdv_67, kdv_68, kdv_69, kdv_70, kdv_71, kdv_72, kdv_73, kdv_74, kdv_75, kdv_76, kdv_77, kdv_78, kdv_79, kdv_80, kdv_81, kdv_82, kdv_83, kdv_84, kdv_85, kdv_86, kdv_87, kdv_88, kdv_89, kdv_90, kdv_91, kdv_92, lnv_2, lnv_4, lnv_5, lnv_6, lnv_7, lnv_8, lnv_9, lnv_10, lnv_11, lnv_12, lnv_13, lnv_14, lnv_15, lnv_17, lnv_18, lnv_20, lnv_22, lnv_24, lnv_25, lnv_53, lnv_54, lnv_82, lnv_83, lnv_84, lnv_85, lnv_86, lnv_87, lnv_88, lnv_89, lnv_90, lnv_91, lnv_92, hN, (ly_0_0 L), (ly_0_1 L), (ly_0_2 L), (ly_0_3 L), (ly_0_4 L), (ly_0_5 L), (ly_1_0 L), (ly_3_0 L), (ly_3_1 L), (ly_3_2 L), (ly_3_3 L), (ly_3_4 L), (ly_3_5 L), (ly_3_6 L), (ly_3_7 L), (ly_3_8 L), (ly_3_10 L), (ly_3_11 L), (ly_3_12 L), (ly_16_0 L), (ly_18_0 L), (ly_18_1 L), (ly_19_0 L), (ly_21_0 L), (ly_81_1 L), (ly_81_3 L), (ly_81_4 L), (ly_81_5 L), (ly_81_6 L), (ly_81_7 L), (ly_81_8 L), (ly_81_9 L), (ly_81_10 L), (ly_81_11 L), (ly_81_17 L), l_le_n, c1, c2, c_near L hT hS hl h2 hL hs, hn, b2i, j_X1_findBest_52, e1, pickS, hq, hq2, h2, t6]
  · simp [z_X1_findBest_9]
theorem m_bestOf {M : MM} {T : TG} {sp dr : Nat} (L : LAY M sp dr) (hT : TOK T) (hLs : LST M T) {i s : Nat} (hi : i < (Lt T).length) (hs : s < 1000) : f_X7_bestOf M 81 (nI i) (nI s) = some (pl T (pick T (near T (Lt T)[i] s) (Lt T))) := by
  have hN := L.1
  have hlen := Lt_819 (T := T)
  simp only [f_X7_bestOf, hN, kdv_81]
  rw [if_pos (by decide)]
  refine lp_ref (T := T) (mk := fun A c => (pl T (pick T (near T (Lt T)[i] s) A), c)) (fun k hk => ?_) ?_
  · have c1 : ¬ nI (Lt T).length ≤ nI k := fun e => by have := (nI_leI (by omega) (by omega)).mp e; omega
    have e1 : nI k + 1 = nI (k + 1) := nI_1 k
    have bk : k < 820 := by omega
    have t := (hLs.2 k hk).2.2.1
    have ha := m_answer L hT hLs hi hk hs
    have hmk := Lt_at hk
    have hix := LB_at hk
    have hok := ownL_le hT (isL_row hmk.2)
    rw [pick_app]
    have hB := (pick_mem (T := T) (p := near T (Lt T)[i] s) ((Lt T).take k)).imp id fun h => tk_mem h.1
    generalize pick T (near T (Lt T)[i] s) ((Lt T).take k) = B at hB ⊢
    generalize hnv : near T (Lt T)[i] s (Lt T)[k] = nv at ha
    have hps : pickS T (near T (Lt T)[i] s) B (Lt T)[k] = if nv = true ∧ (B = 0 ∨ ownL T B < ownL T (Lt T)[k]) then (Lt T)[k] else B := by rw [pickS, hnv]
    rw [hps]
    generalize hm : (Lt T)[k] = m at t hmk hix hok ⊢
    have hm0 : ¬ m = 0 := fun e => by rw [e, not_L0] at hmk; cases hmk.2
    cases nv
    · simp [z_X7_bestOf_6, fI_e, aI_l, aZ_l, aR_l, waI_l, waZ_l, fJ_e, fR_e, wfI_e, wfZ_e, wfJ_e, wfR_e, aI_e, aZ_e, aJ_e, aR_e, waI_e, waZ_e, waJ_e, n_sI, n_sJ, n_sR, gI_sI, gI_sJ, gI_sR, gJ_sI, gJ_sJ, gJ_sR, gR_sI, gR_sJ, gR_sR, Option.bind_some, Option.map_some, kdv_0, kdv_1, kdv_2, kdv_3, kdv_4, kdv_5, kdv_6, kdv_7, kdv_8, kdv_9, kdv_10, kdv_11, kdv_12, kdv_13, kdv_14, kdv_15, kdv_16, kdv_17, kdv_18, kdv_19, kdv_20, kdv_21, kdv_22, kdv_23, kdv_24, kdv_25, kdv_26, kdv_27, kdv_28, kdv_29, kdv_30, kdv_31, kdv_32, kdv_33, kdv_34, kdv_35, kdv_36, kdv_37, kdv_38, kdv_39, kdv_40, kdv_41, kdv_42, kdv_43, kdv_44, kdv_45, kdv_46, kdv_47, kdv_48, kdv_49, kdv_50, kdv_51, kdv_52, kdv_53, kdv_54, kdv_55, kdv_56, kdv_57, kdv_58, kdv_59, kdv_60, kdv_61, kdv_62, kdv_63, kdv_64, kdv_65, kdv_66, kdv_67, kdv_68, kdv_69, kdv_70, kdv_71, kdv_72, kdv_73, kdv_74, kdv_75, kdv_76, kdv_77, kdv_78, kdv_79, kdv_80, kdv_81, kdv_82, kdv_83, kdv_84, kdv_85, kdv_86, kdv_87, kdv_88, kdv_89, kdv_90, kdv_91, kdv_92, lnv_2, lnv_4, lnv_5, lnv_6, lnv_7, lnv_8, lnv_9, lnv_10, lnv_11, lnv_12, lnv_13, lnv_14, lnv_15, lnv_17, lnv_18, lnv_20, lnv_22, lnv_24, lnv_25, lnv_53, lnv_54, lnv_82, lnv_83, lnv_84, lnv_85, lnv_86, lnv_87, lnv_88, lnv_89, lnv_90, lnv_91, lnv_92, hN, hLs.1, c1, ha, b2i, j_X7_bestOf_61, j_X7_bestOf_62, e1]
    · by_cases hB0 : B = 0
      · subst hB0
        simp [z_X7_bestOf_6, fI_e, aI_l, aZ_l, aR_l, waI_l, waZ_l, fJ_e, fR_e, wfI_e, wfZ_e, wfJ_e, wfR_e, aI_e, aZ_e, aJ_e, aR_e, waI_e, waZ_e, waJ_e, n_sI, n_sJ, n_sR, gI_sI, gI_sJ, gI_sR, gJ_sI, gJ_sJ, gJ_sR, gR_sI, gR_sJ, gR_sR, Option.bind_some, Option.map_some, kdv_0, kdv_1, kdv_2, kdv_3, kdv_4, kdv_5, kdv_6, kdv_7, kdv_8, kdv_9, kdv_10, kdv_11, kdv_12, kdv_13, kdv_14, kdv_15, kdv_16, kdv_17, kdv_18, kdv_19, kdv_20, kdv_21, kdv_22, kdv_23, kdv_24, kdv_25, kdv_26, kdv_27, kdv_28, kdv_29, kdv_30, kdv_31, kdv_32, kdv_33, kdv_34, kdv_35, kdv_36, kdv_37, kdv_38, kdv_39, kdv_40, kdv_41, kdv_42, kdv_43, kdv_44, kdv_45, kdv_46, kdv_47, kdv_48, kdv_49, kdv_50, kdv_51, kdv_52, kdv_53, kdv_54, kdv_55, kdv_56, kdv_57, kdv_58, kdv_59, kdv_60, kdv_61, kdv_62, kdv_63, kdv_64, kdv_65, kdv_66, kdv_67, kdv_68, kdv_69, kdv_70, kdv_71, kdv_72, kdv_73, kdv_74, kdv_75, kdv_76, kdv_77, kdv_78, kdv_79, kdv_80, kdv_81, kdv_82, kdv_83, kdv_84, kdv_85, kdv_86, kdv_87, kdv_88, kdv_89, kdv_90, kdv_91, kdv_92, lnv_2, lnv_4, lnv_5, lnv_6, lnv_7, lnv_8, lnv_9, lnv_10, lnv_11, lnv_12, lnv_13, lnv_14, lnv_15, lnv_17, lnv_18, lnv_20, lnv_22, lnv_24, lnv_25, lnv_53, lnv_54, lnv_82, lnv_83, lnv_84, lnv_85, lnv_86, lnv_87, lnv_88, lnv_89, lnv_90, lnv_91, lnv_92, hN, hLs.1, c1, ha, b2i, pl, j_X7_bestOf_56, j_X7_bestOf_62, e1, hm0, hix]
      · obtain ⟨hB1, hB2⟩ := hB.resolve_left hB0
        obtain ⟨hj, ej⟩ := LB_ix hB1 hB2
        have tB := (hLs.2 _ hj).2.2.1
        rw [ej] at tB
        have hoB := ownL_le hT (isL_row hB2)
        generalize hj' : (LB T B).length = j at hj tB
        have bj : j < 820 := by omega
        have hnj : ¬ nI j = -9 := nI_nm (by omega) (by decide)
        have h0j : (0 : Int32) ≤ nI j := (nI_leI (a := 0) (by omega) (by omega)).mpr (by omega)
        have hplB : pl T B = nI j := by simp [pl, hB0, hj']
        have hc : (nI (ownL T m) ≤ nI (ownL T B)) = (ownL T m ≤ ownL T B) := nn_le (by omega) (by omega)
        by_cases hq : ownL T B < ownL T m
        · have hq2 : ¬ ownL T m ≤ ownL T B := by omega
          simp [z_X7_bestOf_6, fI_e, aI_l, aZ_l, aR_l, waI_l, waZ_l, fJ_e, fR_e, wfI_e, wfZ_e, wfJ_e, wfR_e, aI_e, aZ_e, aJ_e, aR_e, waI_e, waZ_e, waJ_e, n_sI, n_sJ, n_sR, gI_sI, gI_sJ, gI_sR, gJ_sI, gJ_sJ, gJ_sR, gR_sI, gR_sJ, gR_sR, Option.bind_some, Option.map_some, kdv_0, kdv_1, kdv_2, kdv_3, kdv_4, kdv_5, kdv_6, kdv_7, kdv_8, kdv_9, kdv_10, kdv_11, kdv_12, kdv_13, kdv_14, kdv_15, kdv_16, kdv_17, kdv_18, kdv_19, kdv_20, kdv_21, kdv_22, kdv_23, kdv_24, kdv_25, kdv_26, kdv_27, kdv_28, kdv_29, kdv_30, kdv_31, kdv_32, kdv_33, kdv_34, kdv_35, kdv_36, kdv_37, kdv_38, kdv_39, kdv_40, kdv_41, kdv_42, kdv_43, kdv_44, kdv_45, kdv_46, kdv_47, kdv_48, kdv_49, kdv_50, kdv_51, kdv_52, kdv_53, kdv_54, kdv_55, kdv_56, kdv_57, kdv_58, kdv_59, kdv_60, kdv_61, kdv_62, kdv_63, kdv_64, kdv_65, kdv_66, kdv_67, kdv_68, kdv_69, kdv_70, kdv_71, kdv_72, kdv_73, kdv_74, kdv_75, kdv_76, kdv_77, kdv_78, kdv_79, kdv_80, kdv_81, kdv_82, kdv_83, kdv_84, kdv_85, kdv_86, kdv_87, kdv_88, kdv_89, kdv_90, kdv_91, kdv_92, lnv_2, lnv_4, lnv_5, lnv_6, lnv_7, lnv_8, lnv_9, lnv_10, lnv_11, lnv_12, lnv_13, lnv_14, lnv_15, lnv_17, lnv_18, lnv_20, lnv_22, lnv_24, lnv_25, lnv_53, lnv_54, lnv_82, lnv_83, lnv_84, lnv_85, lnv_86, lnv_87, lnv_88, lnv_89, lnv_90, lnv_91, lnv_92, hN, (ly_81_10 L), hLs.1, c1, ha, b2i, hplB, hnj, h0j, bk, bj, t, tB, j_X7_bestOf_52, hc, hq, hq2, j_X7_bestOf_56, j_X7_bestOf_62, e1]
          simp [pl, hm0, hix]
        · have hq2 : ownL T m ≤ ownL T B := by omega
          simp [z_X7_bestOf_6, fI_e, aI_l, aZ_l, aR_l, waI_l, waZ_l, fJ_e, fR_e, wfI_e, wfZ_e, wfJ_e, wfR_e, aI_e, aZ_e, aJ_e, aR_e, waI_e, waZ_e, waJ_e, n_sI, n_sJ, n_sR, gI_sI, gI_sJ, gI_sR, gJ_sI, gJ_sJ, gJ_sR, gR_sI, gR_sJ, gR_sR, Option.bind_some, Option.map_some, kdv_0, kdv_1, kdv_2, kdv_3, kdv_4, kdv_5, kdv_6, kdv_7, kdv_8, kdv_9, kdv_10, kdv_11, kdv_12, kdv_13, kdv_14, kdv_15, kdv_16, kdv_17, kdv_18, kdv_19, kdv_20, kdv_21, kdv_22, kdv_23, kdv_24, kdv_25, kdv_26, kdv_27, kdv_28, kdv_29, kdv_30, kdv_31, kdv_32, kdv_33, kdv_34, kdv_35, kdv_36, kdv_37, kdv_38, kdv_39, kdv_40, kdv_41, kdv_42, kdv_43, kdv_44, kdv_45, kdv_46, kdv_47, kdv_48, kdv_49, kdv_50, kdv_51, kdv_52, kdv_53, kdv_54, kdv_55, kdv_56, kdv_57, kdv_58, kdv_59, kdv_60, kdv_61, kdv_62, kdv_63, kdv_64, kdv_65, kdv_66, kdv_67, kdv_68, kdv_69, kdv_70, kdv_71, kdv_72, kdv_73, kdv_74, kdv_75, kdv_76, kdv_77, kdv_78, kdv_79, kdv_80, kdv_81, kdv_82, kdv_83, kdv_84, kdv_85, kdv_86, kdv_87, kdv_88, kdv_89, kdv_90, kdv_91, kdv_92, lnv_2, lnv_4, lnv_5, lnv_6, lnv_7, lnv_8, lnv_9, lnv_10, lnv_11, lnv_12, lnv_13, lnv_14, lnv_15, lnv_17, lnv_18, lnv_20, lnv_22, lnv_24, lnv_25, lnv_53, lnv_54, lnv_82, lnv_83, lnv_84, lnv_85, lnv_86, lnv_87, lnv_88, lnv_89, lnv_90, lnv_91, lnv_92, hN, (ly_81_10 L), hLs.1, c1, ha, b2i, hplB, hnj, h0j, bk, bj, t, tB, j_X7_bestOf_52, hc, hq, hq2, j_X7_bestOf_61, j_X7_bestOf_62, e1, hB0]
  · have c1 : nI (Lt T).length ≤ nI (Lt T).length := Int32.le_refl _
    simp [z_X7_bestOf_6, fI_e, aI_l, aZ_l, aR_l, waI_l, waZ_l, fJ_e, fR_e, wfI_e, wfZ_e, wfJ_e, wfR_e, aI_e, aZ_e, aJ_e, aR_e, waI_e, waZ_e, waJ_e, n_sI, n_sJ, n_sR, gI_sI, gI_sJ, gI_sR, gJ_sI, gJ_sJ, gJ_sR, gR_sI, gR_sJ, gR_sR, Option.bind_some, Option.map_some, kdv_0, kdv_1, kdv_2, kdv_3, kdv_4, kdv_5, kdv_6, kdv_7, kdv_8, kdv_9, kdv_10, kdv_11, kdv_12, kdv_13, kdv_14, kdv_15, kdv_16, kdv_17, kdv_18, kdv_19, kdv_20, kdv_21, kdv_22, kdv_23, kdv_24, kdv_25, kdv_26, kdv_27, kdv_28, kdv_29, kdv_30, kdv_31, kdv_32, kdv_33, kdv_34, kdv_35, kdv_36, kdv_37, kdv_38, kdv_39, kdv_40, kdv_41, kdv_42, kdv_43, kdv_44, kdv_45, kdv_46, kdv_47, kdv_48, kdv_49, kdv_50, kdv_51, kdv_52, kdv_53, kdv_54, kdv_55, kdv_56, kdv_57, kdv_58, kdv_59, kdv_60, kdv_61, kdv_62, kdv_63, kdv_64, kdv_65, kdv_66, kdv_67, kdv_68, kdv_69, kdv_70, kdv_71, kdv_72, kdv_73, kdv_74, kdv_75, kdv_76, kdv_77, kdv_78, kdv_79, kdv_80, kdv_81, kdv_82, kdv_83, kdv_84, kdv_85, kdv_86, kdv_87, kdv_88, kdv_89, kdv_90, kdv_91, kdv_92, lnv_2, lnv_4, lnv_5, lnv_6, lnv_7, lnv_8, lnv_9, lnv_10, lnv_11, lnv_12, lnv_13, lnv_14, lnv_15, lnv_17, lnv_18, lnv_20, lnv_22, lnv_24, lnv_25, lnv_53, lnv_54, lnv_82, lnv_83, lnv_84, lnv_85, lnv_86, lnv_87, lnv_88, lnv_89, lnv_90, lnv_91, lnv_92, hN, hLs.1, c1]
theorem c_slack {M : MM} {x : Int32} : (f_X6_isSlack M x = some 0 ∧ f_X7_in M x 0 2 = some 0) ∨ ∃ s, s < 3 ∧ x = nI s ∧ f_X6_isSlack M x = some 1 ∧ f_X7_in M x 0 2 = some 1 := by
  rcases i_cases x with h | ⟨j, hj, rfl⟩
  · exact Or.inl ⟨by simp [f_X6_isSlack, h], m_in_neg h⟩
  · have hin := m_in (M := M) (j := j) (a := 0) (b := 2) hj (by decide) (by decide)
    rw [show nI 0 = (0 : Int32) from rfl, show nI 2 = (2 : Int32) from rfl] at hin
    have h0 : ¬ nI j < 0 := nI_pos hj
    by_cases h : j ≤ 2
    · refine Or.inr ⟨j, by omega, rfl, by simp [f_X6_isSlack, h0, n_le_l, hj, h], by simp [hin, h]⟩
    · refine Or.inl ⟨by simp [f_X6_isSlack, h0, n_le_l, hj, h], by simp [hin, h]⟩
theorem what_01 {M : MM} {x : Int32} : ((x < 0 ∨ ¬ x ≤ 1) ∧ f_X7_in M x 0 1 = some 0) ∨ ((x = 0 ∨ x = 1) ∧ f_X7_in M x 0 1 = some 1) := by
  rcases i_cases x with h | ⟨j, hj, rfl⟩
  · exact Or.inl ⟨Or.inl h, m_in_neg h⟩
  · have hin := m_in (M := M) (j := j) (a := 0) (b := 1) hj (by decide) (by decide)
    rw [show nI 0 = (0 : Int32) from rfl, show nI 1 = (1 : Int32) from rfl] at hin
    by_cases h : j ≤ 1
    · refine Or.inr ⟨?_, by simp [hin, h]⟩
      rcases (show j = 0 ∨ j = 1 by omega) with rfl | rfl
      · exact Or.inl rfl
      · exact Or.inr rfl
    · refine Or.inl ⟨Or.inr (fun e => h ((nI_leI (b := 1) hj (by decide)).mp e)), by simp [hin, h]⟩
theorem eq_answers {M : MM} {T : TG} {sp dr : Nat} (I : Inv M T sp dr) (x y z : Int32) : ∃ r, f_X6_answers M 0 x y z = some r ∧ f_X7_answers M 81 x y z = some r := by
  obtain ⟨L, hT, hC, hM, hS, hLs, hX, hP, hI0, hI1, hJ⟩ := id I
  have hN := L.1
  obtain ⟨n, hn, x1, x2, x3⟩ := hX
  obtain ⟨k, hk, p1, p2, p3⟩ := hP
  have hst : sp = 23 ∨ sp = 52 := by rcases L.2.1 with ⟨h, -⟩ | ⟨h, -⟩ <;> omega
  obtain ⟨ks0, ks1, ks2, ks3, ks4, ks5, ks6, ks7, ks8⟩ := tkf hst
  obtain ⟨lt0, lt1, lt2, lt3⟩ := ly_t L sp hst

  rcases let_cases T x with h | ⟨j, hj, rfl⟩
  · exact ⟨-1, by simp [f_X6_answers, fI_e, aI_l, aZ_l, aR_l, waI_l, waZ_l, fJ_e, fR_e, wfI_e, wfZ_e, wfJ_e, wfR_e, aI_e, aZ_e, aJ_e, aR_e, waI_e, waZ_e, waJ_e, n_sI, n_sJ, n_sR, gI_sI, gI_sJ, gI_sR, gJ_sI, gJ_sJ, gJ_sR, gR_sI, gR_sJ, gR_sR, Option.bind_some, Option.map_some, kdv_0, kdv_1, kdv_2, kdv_3, kdv_4, kdv_5, kdv_6, kdv_7, kdv_8, kdv_9, kdv_10, kdv_11, kdv_12, kdv_13, kdv_14, kdv_15, kdv_16, kdv_17, kdv_18, kdv_19, kdv_20, kdv_21, kdv_22, kdv_23, kdv_24, kdv_25, kdv_26, kdv_27, kdv_28, kdv_29, kdv_30, kdv_31, kdv_32, kdv_33, kdv_34, kdv_35, kdv_36, kdv_37, kdv_38, kdv_39, kdv_40, kdv_41, kdv_42, kdv_43, kdv_44, kdv_45, kdv_46, kdv_47, kdv_48, kdv_49, kdv_50, kdv_51, kdv_52, kdv_53, kdv_54, kdv_55, kdv_56, kdv_57, kdv_58, kdv_59, kdv_60, kdv_61, kdv_62, kdv_63, kdv_64, kdv_65, kdv_66, kdv_67, kdv_68, kdv_69, kdv_70, kdv_71, kdv_72, kdv_73, kdv_74, kdv_75, kdv_76, kdv_77, kdv_78, kdv_79, kdv_80, kdv_81, kdv_82, kdv_83, kdv_84, kdv_85, kdv_86, kdv_87, kdv_88, kdv_89, kdv_90, kdv_91, kdv_92, lnv_2, lnv_4, lnv_5, lnv_6, lnv_7, lnv_8, lnv_9, lnv_10, lnv_11, lnv_12, lnv_13, lnv_14, lnv_15, lnv_17, lnv_18, lnv_20, lnv_22, lnv_24, lnv_25, lnv_53, lnv_54, lnv_82, lnv_83, lnv_84, lnv_85, lnv_86, lnv_87, lnv_88, lnv_89, lnv_90, lnv_91, lnv_92, hN, (ly_0_0 L), (ly_0_1 L), (ly_0_2 L), (ly_0_3 L), (ly_0_4 L), (ly_0_5 L), (ly_1_0 L), (ly_3_0 L), (ly_3_1 L), (ly_3_2 L), (ly_3_3 L), (ly_3_4 L), (ly_3_5 L), (ly_3_6 L), (ly_3_7 L), (ly_3_8 L), (ly_3_10 L), (ly_3_11 L), (ly_3_12 L), (ly_16_0 L), (ly_18_0 L), (ly_18_1 L), (ly_19_0 L), (ly_21_0 L), (ly_81_1 L), (ly_81_3 L), (ly_81_4 L), (ly_81_5 L), (ly_81_6 L), (ly_81_7 L), (ly_81_8 L), (ly_81_9 L), (ly_81_10 L), (ly_81_11 L), (ly_81_17 L), c_can_no L hS h], by simp [f_X7_answers, hN, kdv_81, m_place_no L hLs h]⟩
  · have hlen := Lt_819 (T := T)
    obtain ⟨hl, hLj⟩ := Lt_at hj
    have hc := c_can L hS hl
    rw [hLj] at hc
    have hp := m_place_at L hLs hj
    have hnm : ¬ nI j = -9 := nI_nm (by omega) (by decide)
    rcases c_slack (M := M) (x := y) with ⟨s1, s2⟩ | ⟨s, hs, rfl, s1, s2⟩
    · exact ⟨-1, by simp [f_X6_answers, fI_e, aI_l, aZ_l, aR_l, waI_l, waZ_l, fJ_e, fR_e, wfI_e, wfZ_e, wfJ_e, wfR_e, aI_e, aZ_e, aJ_e, aR_e, waI_e, waZ_e, waJ_e, n_sI, n_sJ, n_sR, gI_sI, gI_sJ, gI_sR, gJ_sI, gJ_sJ, gJ_sR, gR_sI, gR_sJ, gR_sR, Option.bind_some, Option.map_some, kdv_0, kdv_1, kdv_2, kdv_3, kdv_4, kdv_5, kdv_6, kdv_7, kdv_8, kdv_9, kdv_10, kdv_11, kdv_12, kdv_13, kdv_14, kdv_15, kdv_16, kdv_17, kdv_18, kdv_19, kdv_20, kdv_21, kdv_22, kdv_23, kdv_24, kdv_25, kdv_26, kdv_27, kdv_28, kdv_29, kdv_30, kdv_31, kdv_32, kdv_33, kdv_34, kdv_35, kdv_36, kdv_37, kdv_38, kdv_39, kdv_40, kdv_41, kdv_42, kdv_43, kdv_44, kdv_45, kdv_46, kdv_47, kdv_48, kdv_49, kdv_50, kdv_51, kdv_52, kdv_53, kdv_54, kdv_55, kdv_56, kdv_57, kdv_58, kdv_59, kdv_60, kdv_61, kdv_62, kdv_63, kdv_64, kdv_65, kdv_66, kdv_67, kdv_68, kdv_69, kdv_70, kdv_71, kdv_72, kdv_73, kdv_74, kdv_75, kdv_76, kdv_77, kdv_78, kdv_79, kdv_80, kdv_81, kdv_82, kdv_83, kdv_84, kdv_85, kdv_86, kdv_87, kdv_88, kdv_89, kdv_90, kdv_91, kdv_92, lnv_2, lnv_4, lnv_5, lnv_6, lnv_7, lnv_8, lnv_9, lnv_10, lnv_11, lnv_12, lnv_13, lnv_14, lnv_15, lnv_17, lnv_18, lnv_20, lnv_22, lnv_24, lnv_25, lnv_53, lnv_54, lnv_82, lnv_83, lnv_84, lnv_85, lnv_86, lnv_87, lnv_88, lnv_89, lnv_90, lnv_91, lnv_92, hN, (ly_0_0 L), (ly_0_1 L), (ly_0_2 L), (ly_0_3 L), (ly_0_4 L), (ly_0_5 L), (ly_1_0 L), (ly_3_0 L), (ly_3_1 L), (ly_3_2 L), (ly_3_3 L), (ly_3_4 L), (ly_3_5 L), (ly_3_6 L), (ly_3_7 L), (ly_3_8 L), (ly_3_10 L), (ly_3_11 L), (ly_3_12 L), (ly_16_0 L), (ly_18_0 L), (ly_18_1 L), (ly_19_0 L), (ly_21_0 L), (ly_81_1 L), (ly_81_3 L), (ly_81_4 L), (ly_81_5 L), (ly_81_6 L), (ly_81_7 L), (ly_81_8 L), (ly_81_9 L), (ly_81_10 L), (ly_81_11 L), (ly_81_17 L), hc, b2i, s1], by simp [f_X7_answers, hN, kdv_81, hp, hnm, s2]⟩
    · rcases what_01 (M := M) (x := z) with ⟨w1, w2⟩ | ⟨w1, w2⟩
      · refine ⟨-1, ?_, by simp [f_X7_answers, hN, kdv_81, hp, hnm, s2, w2]⟩
        rcases w1 with w1 | w1
        · simp [f_X6_answers, fI_e, aI_l, aZ_l, aR_l, waI_l, waZ_l, fJ_e, fR_e, wfI_e, wfZ_e, wfJ_e, wfR_e, aI_e, aZ_e, aJ_e, aR_e, waI_e, waZ_e, waJ_e, n_sI, n_sJ, n_sR, gI_sI, gI_sJ, gI_sR, gJ_sI, gJ_sJ, gJ_sR, gR_sI, gR_sJ, gR_sR, Option.bind_some, Option.map_some, kdv_0, kdv_1, kdv_2, kdv_3, kdv_4, kdv_5, kdv_6, kdv_7, kdv_8, kdv_9, kdv_10, kdv_11, kdv_12, kdv_13, kdv_14, kdv_15, kdv_16, kdv_17, kdv_18, kdv_19, kdv_20, kdv_21, kdv_22, kdv_23, kdv_24, kdv_25, kdv_26, kdv_27, kdv_28, kdv_29, kdv_30, kdv_31, kdv_32, kdv_33, kdv_34, kdv_35, kdv_36, kdv_37, kdv_38, kdv_39, kdv_40, kdv_41, kdv_42, kdv_43, kdv_44, kdv_45, kdv_46, kdv_47, kdv_48, kdv_49, kdv_50, kdv_51, kdv_52, kdv_53, kdv_54, kdv_55, kdv_56, kdv_57, kdv_58, kdv_59, kdv_60, kdv_61, kdv_62, kdv_63, kdv_64, kdv_65, kdv_66, kdv_67, kdv_68, kdv_69, kdv_70, kdv_71, kdv_72, kdv_73, kdv_74, kdv_75, kdv_76, kdv_77, kdv_78, kdv_79, kdv_80, kdv_81, kdv_82, kdv_83, kdv_84, kdv_85, kdv_86, kdv_87, kdv_88, kdv_89, kdv_90, kdv_91, kdv_92, lnv_2, lnv_4, lnv_5, lnv_6, lnv_7, lnv_8, lnv_9, lnv_10, lnv_11, lnv_12, lnv_13, lnv_14, lnv_15, lnv_17, lnv_18, lnv_20, lnv_22, lnv_24, lnv_25, lnv_53, lnv_54, lnv_82, lnv_83, lnv_84, lnv_85, lnv_86, lnv_87, lnv_88, lnv_89, lnv_90, lnv_91, lnv_92, hN, (ly_0_0 L), (ly_0_1 L), (ly_0_2 L), (ly_0_3 L), (ly_0_4 L), (ly_0_5 L), (ly_1_0 L), (ly_3_0 L), (ly_3_1 L), (ly_3_2 L), (ly_3_3 L), (ly_3_4 L), (ly_3_5 L), (ly_3_6 L), (ly_3_7 L), (ly_3_8 L), (ly_3_10 L), (ly_3_11 L), (ly_3_12 L), (ly_16_0 L), (ly_18_0 L), (ly_18_1 L), (ly_19_0 L), (ly_21_0 L), (ly_81_1 L), (ly_81_3 L), (ly_81_4 L), (ly_81_5 L), (ly_81_6 L), (ly_81_7 L), (ly_81_8 L), (ly_81_9 L), (ly_81_10 L), (ly_81_11 L), (ly_81_17 L), hc, b2i, s1, w1]
        · simp [f_X6_answers, fI_e, aI_l, aZ_l, aR_l, waI_l, waZ_l, fJ_e, fR_e, wfI_e, wfZ_e, wfJ_e, wfR_e, aI_e, aZ_e, aJ_e, aR_e, waI_e, waZ_e, waJ_e, n_sI, n_sJ, n_sR, gI_sI, gI_sJ, gI_sR, gJ_sI, gJ_sJ, gJ_sR, gR_sI, gR_sJ, gR_sR, Option.bind_some, Option.map_some, kdv_0, kdv_1, kdv_2, kdv_3, kdv_4, kdv_5, kdv_6, kdv_7, kdv_8, kdv_9, kdv_10, kdv_11, kdv_12, kdv_13, kdv_14, kdv_15, kdv_16, kdv_17, kdv_18, kdv_19, kdv_20, kdv_21, kdv_22, kdv_23, kdv_24, kdv_25, kdv_26, kdv_27, kdv_28, kdv_29, kdv_30, kdv_31, kdv_32, kdv_33, kdv_34, kdv_35, kdv_36, kdv_37, kdv_38, kdv_39, kdv_40, kdv_41, kdv_42, kdv_43, kdv_44, kdv_45, kdv_46, kdv_47, kdv_48, kdv_49, kdv_50, kdv_51, kdv_52, kdv_53, kdv_54, kdv_55, kdv_56, kdv_57, kdv_58, kdv_59, kdv_60, kdv_61, kdv_62, kdv_63, kdv_64, kdv_65, kdv_66, kdv_67, kdv_68, kdv_69, kdv_70, kdv_71, kdv_72, kdv_73, kdv_74, kdv_75, kdv_76, kdv_77, kdv_78, kdv_79, kdv_80, kdv_81, kdv_82, kdv_83, kdv_84, kdv_85, kdv_86, kdv_87, kdv_88, kdv_89, kdv_90, kdv_91, kdv_92, lnv_2, lnv_4, lnv_5, lnv_6, lnv_7, lnv_8, lnv_9, lnv_10, lnv_11, lnv_12, lnv_13, lnv_14, lnv_15, lnv_17, lnv_18, lnv_20, lnv_22, lnv_24, lnv_25, lnv_53, lnv_54, lnv_82, lnv_83, lnv_84, lnv_85, lnv_86, lnv_87, lnv_88, lnv_89, lnv_90, lnv_91, lnv_92, hN, (ly_0_0 L), (ly_0_1 L), (ly_0_2 L), (ly_0_3 L), (ly_0_4 L), (ly_0_5 L), (ly_1_0 L), (ly_3_0 L), (ly_3_1 L), (ly_3_2 L), (ly_3_3 L), (ly_3_4 L), (ly_3_5 L), (ly_3_6 L), (ly_3_7 L), (ly_3_8 L), (ly_3_10 L), (ly_3_11 L), (ly_3_12 L), (ly_16_0 L), (ly_18_0 L), (ly_18_1 L), (ly_19_0 L), (ly_21_0 L), (ly_81_1 L), (ly_81_3 L), (ly_81_4 L), (ly_81_5 L), (ly_81_6 L), (ly_81_7 L), (ly_81_8 L), (ly_81_9 L), (ly_81_10 L), (ly_81_11 L), (ly_81_17 L), hc, b2i, s1, w1]
      · have hcc := c_countAnswers L hT hS hl hLj (show s < 1000 by omega)
        have hcf := c_findBest L hT hS hl hLj (show s < 1000 by omega)
        have hmb := m_bestOf L hT hLs hj (show s < 1000 by omega)
        have hB := pick_Lt (T := T) (p := near T (Lt T)[j] s)
        generalize hBv : pick T (near T (Lt T)[j] s) (Lt T) = B at hcf hmb hB
        have hend : z_X7_answers_40 M 81 (nI s) z (nI j) (cntI (near T (Lt T)[j] s) (Lt T)) (nI (Lt T).length) = some (.inl (if z = 0 then cntI (near T (Lt T)[j] s) (Lt T) else nb B)) := by
          have c1 : nI (Lt T).length ≤ nI (Lt T).length := Int32.le_refl _
          by_cases hz : z = 0
          · simp [z_X7_answers_40, fI_e, aI_l, aZ_l, aR_l, waI_l, waZ_l, fJ_e, fR_e, wfI_e, wfZ_e, wfJ_e, wfR_e, aI_e, aZ_e, aJ_e, aR_e, waI_e, waZ_e, waJ_e, n_sI, n_sJ, n_sR, gI_sI, gI_sJ, gI_sR, gJ_sI, gJ_sJ, gJ_sR, gR_sI, gR_sJ, gR_sR, Option.bind_some, Option.map_some, kdv_0, kdv_1, kdv_2, kdv_3, kdv_4, kdv_5, kdv_6, kdv_7, kdv_8, kdv_9, kdv_10, kdv_11, kdv_12, kdv_13, kdv_14, kdv_15, kdv_16, kdv_17, kdv_18, kdv_19, kdv_20, kdv_21, kdv_22, kdv_23, kdv_24, kdv_25, kdv_26, kdv_27, kdv_28, kdv_29, kdv_30, kdv_31, kdv_32, kdv_33, kdv_34, kdv_35, kdv_36, kdv_37, kdv_38, kdv_39, kdv_40, kdv_41, kdv_42, kdv_43, kdv_44, kdv_45, kdv_46, kdv_47, kdv_48, kdv_49, kdv_50, kdv_51, kdv_52, kdv_53, kdv_54, kdv_55, kdv_56, kdv_57, kdv_58, kdv_59, kdv_60, kdv_61, kdv_62, kdv_63, kdv_64, kdv_65, kdv_66, kdv_67, kdv_68, kdv_69, kdv_70, kdv_71, kdv_72, kdv_73, kdv_74, kdv_75, kdv_76, kdv_77, kdv_78, kdv_79, kdv_80, kdv_81, kdv_82, kdv_83, kdv_84, kdv_85, kdv_86, kdv_87, kdv_88, kdv_89, kdv_90, kdv_91, kdv_92, lnv_2, lnv_4, lnv_5, lnv_6, lnv_7, lnv_8, lnv_9, lnv_10, lnv_11, lnv_12, lnv_13, lnv_14, lnv_15, lnv_17, lnv_18, lnv_20, lnv_22, lnv_24, lnv_25, lnv_53, lnv_54, lnv_82, lnv_83, lnv_84, lnv_85, lnv_86, lnv_87, lnv_88, lnv_89, lnv_90, lnv_91, lnv_92, hN, hLs.1, c1, hmb, hz]
          · by_cases hB0 : B = 0
            · simp [z_X7_answers_40, fI_e, aI_l, aZ_l, aR_l, waI_l, waZ_l, fJ_e, fR_e, wfI_e, wfZ_e, wfJ_e, wfR_e, aI_e, aZ_e, aJ_e, aR_e, waI_e, waZ_e, waJ_e, n_sI, n_sJ, n_sR, gI_sI, gI_sJ, gI_sR, gJ_sI, gJ_sJ, gJ_sR, gR_sI, gR_sJ, gR_sR, Option.bind_some, Option.map_some, kdv_0, kdv_1, kdv_2, kdv_3, kdv_4, kdv_5, kdv_6, kdv_7, kdv_8, kdv_9, kdv_10, kdv_11, kdv_12, kdv_13, kdv_14, kdv_15, kdv_16, kdv_17, kdv_18, kdv_19, kdv_20, kdv_21, kdv_22, kdv_23, kdv_24, kdv_25, kdv_26, kdv_27, kdv_28, kdv_29, kdv_30, kdv_31, kdv_32, kdv_33, kdv_34, kdv_35, kdv_36, kdv_37, kdv_38, kdv_39, kdv_40, kdv_41, kdv_42, kdv_43, kdv_44, kdv_45, kdv_46, kdv_47, kdv_48, kdv_49, kdv_50, kdv_51, kdv_52, kdv_53, kdv_54, kdv_55, kdv_56, kdv_57, kdv_58, kdv_59, kdv_60, kdv_61, kdv_62, kdv_63, kdv_64, kdv_65, kdv_66, kdv_67, kdv_68, kdv_69, kdv_70, kdv_71, kdv_72, kdv_73, kdv_74, kdv_75, kdv_76, kdv_77, kdv_78, kdv_79, kdv_80, kdv_81, kdv_82, kdv_83, kdv_84, kdv_85, kdv_86, kdv_87, kdv_88, kdv_89, kdv_90, kdv_91, kdv_92, lnv_2, lnv_4, lnv_5, lnv_6, lnv_7, lnv_8, lnv_9, lnv_10, lnv_11, lnv_12, lnv_13, lnv_14, lnv_15, lnv_17, lnv_18, lnv_20, lnv_22, lnv_24, lnv_25, lnv_53, lnv_54, lnv_82, lnv_83, lnv_84, lnv_85, lnv_86, lnv_87, lnv_88, lnv_89, lnv_90, lnv_91, lnv_92, hN, hLs.1, c1, hmb, hz, pl, nb, hB0]
            · obtain ⟨hB1, hB2, -⟩ := hB.resolve_left hB0
              obtain ⟨hq, eq⟩ := LB_ix hB1 hB2
              have t := (hLs.2 _ hq).1
              rw [eq] at t
              generalize hq' : (LB T B).length = q at hq t
              have hnq : ¬ nI q = -9 := nI_nm (by omega) (by decide)
              have bq : q < 820 := by omega
              simp [z_X7_answers_40, fI_e, aI_l, aZ_l, aR_l, waI_l, waZ_l, fJ_e, fR_e, wfI_e, wfZ_e, wfJ_e, wfR_e, aI_e, aZ_e, aJ_e, aR_e, waI_e, waZ_e, waJ_e, n_sI, n_sJ, n_sR, gI_sI, gI_sJ, gI_sR, gJ_sI, gJ_sJ, gJ_sR, gR_sI, gR_sJ, gR_sR, Option.bind_some, Option.map_some, kdv_0, kdv_1, kdv_2, kdv_3, kdv_4, kdv_5, kdv_6, kdv_7, kdv_8, kdv_9, kdv_10, kdv_11, kdv_12, kdv_13, kdv_14, kdv_15, kdv_16, kdv_17, kdv_18, kdv_19, kdv_20, kdv_21, kdv_22, kdv_23, kdv_24, kdv_25, kdv_26, kdv_27, kdv_28, kdv_29, kdv_30, kdv_31, kdv_32, kdv_33, kdv_34, kdv_35, kdv_36, kdv_37, kdv_38, kdv_39, kdv_40, kdv_41, kdv_42, kdv_43, kdv_44, kdv_45, kdv_46, kdv_47, kdv_48, kdv_49, kdv_50, kdv_51, kdv_52, kdv_53, kdv_54, kdv_55, kdv_56, kdv_57, kdv_58, kdv_59, kdv_60, kdv_61, kdv_62, kdv_63, kdv_64, kdv_65, kdv_66, kdv_67, kdv_68, kdv_69, kdv_70, kdv_71, kdv_72, kdv_73, kdv_74, kdv_75, kdv_76, kdv_77, kdv_78, kdv_79, kdv_80, kdv_81, kdv_82, kdv_83, kdv_84, kdv_85, kdv_86, kdv_87, kdv_88, kdv_89, kdv_90, kdv_91, kdv_92, lnv_2, lnv_4, lnv_5, lnv_6, lnv_7, lnv_8, lnv_9, lnv_10, lnv_11, lnv_12, lnv_13, lnv_14, lnv_15, lnv_17, lnv_18, lnv_20, lnv_22, lnv_24, lnv_25, lnv_53, lnv_54, lnv_82, lnv_83, lnv_84, lnv_85, lnv_86, lnv_87, lnv_88, lnv_89, lnv_90, lnv_91, lnv_92, hN, (ly_81_8 L), hLs.1, c1, hmb, hz, pl, nb, hB0, hq', hnq, bq, t]
        have hm : f_X7_answers M 81 (nI (Lt T)[j]) (nI s) z = some (if z = 0 then cntI (near T (Lt T)[j] s) (Lt T) else nb B) := by
          simp only [f_X7_answers, hN, kdv_81]
          rw [if_pos (by decide)]
          simp only [hp, Option.bind_some, if_neg hnm, s2, w2]
          rw [if_neg (by decide), if_neg (by decide)]
          refine lp_ref (T := T) (mk := fun A c => (cntI (near T (Lt T)[j] s) A, c)) (fun k hk => ?_) hend
          have c1 : ¬ nI (Lt T).length ≤ nI k := fun e => by have := (nI_leI (by omega) (by omega)).mp e; omega
          have e1 : nI k + 1 = nI (k + 1) := nI_1 k
          have ha := m_answer L hT hLs hj hk (show s < 1000 by omega)
          rw [cntI_app, cntS]
          generalize near T (Lt T)[j] s (Lt T)[k] = nv at ha
          cases nv <;> simp [z_X7_answers_40, fI_e, aI_l, aZ_l, aR_l, waI_l, waZ_l, fJ_e, fR_e, wfI_e, wfZ_e, wfJ_e, wfR_e, aI_e, aZ_e, aJ_e, aR_e, waI_e, waZ_e, waJ_e, n_sI, n_sJ, n_sR, gI_sI, gI_sJ, gI_sR, gJ_sI, gJ_sJ, gJ_sR, gR_sI, gR_sJ, gR_sR, Option.bind_some, Option.map_some, kdv_0, kdv_1, kdv_2, kdv_3, kdv_4, kdv_5, kdv_6, kdv_7, kdv_8, kdv_9, kdv_10, kdv_11, kdv_12, kdv_13, kdv_14, kdv_15, kdv_16, kdv_17, kdv_18, kdv_19, kdv_20, kdv_21, kdv_22, kdv_23, kdv_24, kdv_25, kdv_26, kdv_27, kdv_28, kdv_29, kdv_30, kdv_31, kdv_32, kdv_33, kdv_34, kdv_35, kdv_36, kdv_37, kdv_38, kdv_39, kdv_40, kdv_41, kdv_42, kdv_43, kdv_44, kdv_45, kdv_46, kdv_47, kdv_48, kdv_49, kdv_50, kdv_51, kdv_52, kdv_53, kdv_54, kdv_55, kdv_56, kdv_57, kdv_58, kdv_59, kdv_60, kdv_61, kdv_62, kdv_63, kdv_64, kdv_65, kdv_66, kdv_67, kdv_68, kdv_69, kdv_70, kdv_71, kdv_72, kdv_73, kdv_74, kdv_75, kdv_76, kdv_77, kdv_78, kdv_79, kdv_80, kdv_81, kdv_82, kdv_83, kdv_84, kdv_85, kdv_86, kdv_87, kdv_88, kdv_89, kdv_90, kdv_91, kdv_92, lnv_2, lnv_4, lnv_5, lnv_6, lnv_7, lnv_8, lnv_9, lnv_10, lnv_11, lnv_12, lnv_13, lnv_14, lnv_15, lnv_17, lnv_18, lnv_20, lnv_22, lnv_24, lnv_25, lnv_53, lnv_54, lnv_82, lnv_83, lnv_84, lnv_85, lnv_86, lnv_87, lnv_88, lnv_89, lnv_90, lnv_91, lnv_92, hN, hLs.1, c1, ha, b2i, j_X7_answers_68, e1]
        refine ⟨_, ?_, hm⟩
        rcases w1 with rfl | rfl
        · simp [f_X6_answers, fI_e, aI_l, aZ_l, aR_l, waI_l, waZ_l, fJ_e, fR_e, wfI_e, wfZ_e, wfJ_e, wfR_e, aI_e, aZ_e, aJ_e, aR_e, waI_e, waZ_e, waJ_e, n_sI, n_sJ, n_sR, gI_sI, gI_sJ, gI_sR, gJ_sI, gJ_sJ, gJ_sR, gR_sI, gR_sJ, gR_sR, Option.bind_some, Option.map_some, kdv_0, kdv_1, kdv_2, kdv_3, kdv_4, kdv_5, kdv_6, kdv_7, kdv_8, kdv_9, kdv_10, kdv_11, kdv_12, kdv_13, kdv_14, kdv_15, kdv_16, kdv_17, kdv_18, kdv_19, kdv_20, kdv_21, kdv_22, kdv_23, kdv_24, kdv_25, kdv_26, kdv_27, kdv_28, kdv_29, kdv_30, kdv_31, kdv_32, kdv_33, kdv_34, kdv_35, kdv_36, kdv_37, kdv_38, kdv_39, kdv_40, kdv_41, kdv_42, kdv_43, kdv_44, kdv_45, kdv_46, kdv_47, kdv_48, kdv_49, kdv_50, kdv_51, kdv_52, kdv_53, kdv_54, kdv_55, kdv_56, kdv_57, kdv_58, kdv_59, kdv_60, kdv_61, kdv_62, kdv_63, kdv_64, kdv_65, kdv_66, kdv_67, kdv_68, kdv_69, kdv_70, kdv_71, kdv_72, kdv_73, kdv_74, kdv_75, kdv_76, kdv_77, kdv_78, kdv_79, kdv_80, kdv_81, kdv_82, kdv_83, kdv_84, kdv_85, kdv_86, kdv_87, kdv_88, kdv_89, kdv_90, kdv_91, kdv_92, lnv_2, lnv_4, lnv_5, lnv_6, lnv_7, lnv_8, lnv_9, lnv_10, lnv_11, lnv_12, lnv_13, lnv_14, lnv_15, lnv_17, lnv_18, lnv_20, lnv_22, lnv_24, lnv_25, lnv_53, lnv_54, lnv_82, lnv_83, lnv_84, lnv_85, lnv_86, lnv_87, lnv_88, lnv_89, lnv_90, lnv_91, lnv_92, hN, (ly_0_0 L), (ly_0_1 L), (ly_0_2 L), (ly_0_3 L), (ly_0_4 L), (ly_0_5 L), (ly_1_0 L), (ly_3_0 L), (ly_3_1 L), (ly_3_2 L), (ly_3_3 L), (ly_3_4 L), (ly_3_5 L), (ly_3_6 L), (ly_3_7 L), (ly_3_8 L), (ly_3_10 L), (ly_3_11 L), (ly_3_12 L), (ly_16_0 L), (ly_18_0 L), (ly_18_1 L), (ly_19_0 L), (ly_21_0 L), (ly_81_1 L), (ly_81_3 L), (ly_81_4 L), (ly_81_5 L), (ly_81_6 L), (ly_81_7 L), (ly_81_8 L), (ly_81_9 L), (ly_81_10 L), (ly_81_11 L), (ly_81_17 L), hc, b2i, s1, hcc]
        · simp [f_X6_answers, fI_e, aI_l, aZ_l, aR_l, waI_l, waZ_l, fJ_e, fR_e, wfI_e, wfZ_e, wfJ_e, wfR_e, aI_e, aZ_e, aJ_e, aR_e, waI_e, waZ_e, waJ_e, n_sI, n_sJ, n_sR, gI_sI, gI_sJ, gI_sR, gJ_sI, gJ_sJ, gJ_sR, gR_sI, gR_sJ, gR_sR, Option.bind_some, Option.map_some, kdv_0, kdv_1, kdv_2, kdv_3, kdv_4, kdv_5, kdv_6, kdv_7, kdv_8, kdv_9, kdv_10, kdv_11, kdv_12, kdv_13, kdv_14, kdv_15, kdv_16, kdv_17, kdv_18, kdv_19, kdv_20, kdv_21, kdv_22, kdv_23, kdv_24, kdv_25, kdv_26, kdv_27, kdv_28, kdv_29, kdv_30, kdv_31, kdv_32, kdv_33, kdv_34, kdv_35, kdv_36, kdv_37, kdv_38, kdv_39, kdv_40, kdv_41, kdv_42, kdv_43, kdv_44, kdv_45, kdv_46, kdv_47, kdv_48, kdv_49, kdv_50, kdv_51, kdv_52, kdv_53, kdv_54, kdv_55, kdv_56, kdv_57, kdv_58, kdv_59, kdv_60, kdv_61, kdv_62, kdv_63, kdv_64, kdv_65, kdv_66, kdv_67, kdv_68, kdv_69, kdv_70, kdv_71, kdv_72, kdv_73, kdv_74, kdv_75, kdv_76, kdv_77, kdv_78, kdv_79, kdv_80, kdv_81, kdv_82, kdv_83, kdv_84, kdv_85, kdv_86, kdv_87, kdv_88, kdv_89, kdv_90, kdv_91, kdv_92, lnv_2, lnv_4, lnv_5, lnv_6, lnv_7, lnv_8, lnv_9, lnv_10, lnv_11, lnv_12, lnv_13, lnv_14, lnv_15, lnv_17, lnv_18, lnv_20, lnv_22, lnv_24, lnv_25, lnv_53, lnv_54, lnv_82, lnv_83, lnv_84, lnv_85, lnv_86, lnv_87, lnv_88, lnv_89, lnv_90, lnv_91, lnv_92, hN, (ly_0_0 L), (ly_0_1 L), (ly_0_2 L), (ly_0_3 L), (ly_0_4 L), (ly_0_5 L), (ly_1_0 L), (ly_3_0 L), (ly_3_1 L), (ly_3_2 L), (ly_3_3 L), (ly_3_4 L), (ly_3_5 L), (ly_3_6 L), (ly_3_7 L), (ly_3_8 L), (ly_3_10 L), (ly_3_11 L), (ly_3_12 L), (ly_16_0 L), (ly_18_0 L), (ly_18_1 L), (ly_19_0 L), (ly_21_0 L), (ly_81_1 L), (ly_81_3 L), (ly_81_4 L), (ly_81_5 L), (ly_81_6 L), (ly_81_7 L), (ly_81_8 L), (ly_81_9 L), (ly_81_10 L), (ly_81_11 L), (ly_81_17 L), hc, b2i, s1, hcf]
