/-! PURE: alphabet -/
theorem i32_0 {x : Int32} : x = 0 ↔ ∀ i, i < 32 → bt x i = false := by
  constructor
  · intro h i _
    rw [h, b_0]
  · intro h
    apply b_ext
    intro i hi
    rw [h i hi, b_0]
def subS (s : Nat) (x : Nat) : Bool := decide (nI s &&& (nI x ^^^ (-1)) = 0)
noncomputable def wi (T : TG) (x : Nat) : Nat := (Lt T).countP fun l => subS (stL T l) x
theorem cnt_step {f : Nat → Nat} {q : Nat → Bool} {i : Nat} : ∀ A : List Nat, A.countP (fun l => decide (f l < i + 1) && q (f l)) = A.countP (fun l => decide (f l < i) && q (f l)) + if q i = true then (A.filter fun l => decide (f l = i)).length else 0
  | [] => by simp
  | a :: A => by
    have ih := cnt_step (f := f) (q := q) (i := i) A
    rw [List.countP_cons, List.countP_cons, ih, List.filter_cons]
    by_cases h1 : f a < i
    · have h2 : f a < i + 1 := by omega
      have h3 : ¬ f a = i := by omega
      simp [h1, h2, h3]
      omega
    · by_cases h3 : f a = i
      · rw [h3]
        by_cases hq : q i = true
        · simp [hq]; omega
        · simp [hq]
      · have h2 : ¬ f a < i + 1 := by omega
        simp [h1, h2, h3]
theorem stL_lt {T : TG} {l : Nat} : stL T l < 256 := by
  unfold stL pk
  simp only
  have h : ∀ s, (if 0 < cn T l s then 1 else 0) ≤ 1 := fun s => by split <;> omega
  have h0 := h 0; have h1 := h 1; have h2 := h 2; have h3 := h 3; have h4 := h 4; have h5 := h 5; have h6 := h 6; have h7 := h 7
  omega
theorem wi_le {T : TG} {x : Nat} : wi T x ≤ 819 := Nat.le_trans List.countP_le_length Lt_819
theorem c_countWithin {M : MM} {T : TG} {sp dr x : Nat} (L : LAY M sp dr) (hS : SAY M T) : f_X1_countWithin M 3 (nI x) = some (nI (wi T x)) := by
  have hN := L.1
  simp only [f_X1_countWithin, hN, kdv_3]
  rw [if_pos (by decide), show ((0, 0) : Int32 × Int32) = (nI ((Lt T).countP fun l => decide (stL T l < 0) && subS (stL T l) x), nI 0) by simp [n00]]
  refine lp_run (st := fun i => (nI ((Lt T).countP fun l => decide (stL T l < i) && subS (stL T l) x), nI i)) 256 (fun i hi => ?_) ?_ FU (show 256 < 4000 by omega)
  · have c1 : ¬ 256 ≤ i := by omega
    have c2 : i < 2147483648 := by omega
    have e1 : nI i + 1 = nI (i + 1) := nI_1 i
    have t := hS.2.2.2.2.1 i hi
    have hst := cnt_step (f := stL T) (q := fun s => subS s x) (i := i) (Lt T)
    rw [hst]
    generalize (Lt T).countP (fun l => decide (stL T l < i) && subS (stL T l) x) = n
    generalize ((Lt T).filter fun l => decide (stL T l = i)).length = w at t
    by_cases hq : nI i &&& (nI x ^^^ (-1)) = 0
    · have hq2 : subS i x = true := decide_eq_true hq
      rw [hq2, if_pos rfl, ← nI_add]
      simp [-Int32.xor_neg_one, z_X1_countWithin_4, fI_e, aI_l, aZ_l, aR_l, waI_l, waZ_l, fJ_e, fR_e, wfI_e, wfZ_e, wfJ_e, wfR_e, aI_e, aZ_e, aJ_e, aR_e, waI_e, waZ_e, waJ_e, n_sI, n_sJ, n_sR, gI_sI, gI_sJ, gI_sR, gJ_sI, gJ_sJ, gJ_sR, gR_sI, gR_sJ, gR_sR, Option.bind_some, Option.map_some, kdv_0, kdv_1, kdv_2, kdv_3, kdv_4, kdv_5, kdv_6, kdv_7, kdv_8, kdv_9, kdv_10, kdv_11, kdv_12, kdv_13, kdv_14, kdv_15, kdv_16, kdv_17, kdv_18, kdv_19, kdv_20, kdv_21, kdv_22, kdv_23, kdv_24, kdv_25, kdv_26, kdv_27, kdv_28, kdv_29, kdv_30, kdv_31, kdv_32, kdv_33, kdv_34, kdv_35, kdv_36, kdv_37, kdv_38, kdv_39, kdv_40, kdv_41, kdv_42, kdv_43, kdv_44, kdv_45, kdv_46, kdv_47, kdv_48, kdv_49, kdv_50, kdv_51, kdv_52, kdv_53, kdv_54, kdv_55, kdv_56, kdv_57, kdv_58, kdv_59, kdv_60, kdv_61, kdv_62, kdv_63, kdv_64, kdv_65, kdv_66, kdv_67, kdv_68, kdv_69, kdv_70, kdv_71, kdv_72, kdv_73, kdv_74, kdv_75, kdv_76, kdv_77, kdv_78, kdv_79, kdv_80, kdv_81, kdv_82, kdv_83, kdv_84, kdv_85, kdv_86, kdv_87, kdv_88, kdv_89, kdv_90, kdv_91, kdv_92, lnv_2, lnv_4, lnv_5, lnv_6, lnv_7, lnv_8, lnv_9, lnv_10, lnv_11, lnv_12, lnv_13, lnv_14, lnv_15, lnv_17, lnv_18, lnv_20, lnv_22, lnv_24, lnv_25, lnv_53, lnv_54, lnv_82, lnv_83, lnv_84, lnv_85, lnv_86, lnv_87, lnv_88, lnv_89, lnv_90, lnv_91, lnv_92, hN, (ly_0_0 L), (ly_0_1 L), (ly_0_2 L), (ly_0_3 L), (ly_0_4 L), (ly_0_5 L), (ly_1_0 L), (ly_3_0 L), (ly_3_1 L), (ly_3_2 L), (ly_3_3 L), (ly_3_4 L), (ly_3_5 L), (ly_3_6 L), (ly_3_7 L), (ly_3_8 L), (ly_3_10 L), (ly_3_11 L), (ly_3_12 L), (ly_16_0 L), (ly_18_0 L), (ly_18_1 L), (ly_19_0 L), (ly_21_0 L), (ly_81_1 L), (ly_81_3 L), (ly_81_4 L), (ly_81_5 L), (ly_81_6 L), (ly_81_7 L), (ly_81_8 L), (ly_81_9 L), (ly_81_10 L), (ly_81_11 L), (ly_81_17 L), l_le_n, c1, c2, hq, hi, t, j_X1_countWithin_28, e1]
    · have hq2 : subS i x = false := decide_eq_false hq
      rw [hq2, if_neg (by decide)]
      simp [-Int32.xor_neg_one, z_X1_countWithin_4, l_le_n, c1, c2, hq, j_X1_countWithin_28, e1]
  · have c1 : (256 : Int32) ≤ nI 256 := by decide
    simp only [z_X1_countWithin_4, if_pos c1]
    unfold wi
    congr 3
    refine List.countP_congr (fun l _ => ?_)
    simp [stL_lt]
theorem x256 {x : Nat} (hx : x < 256) : nI x = ms (fun s => x.testBit s) := by
  apply b_ext
  intro i hi
  rw [bt_nI _ hi, bt_ms hi]
  by_cases h : i < 8
  · simp [h]
  · have : x.testBit i = false := Nat.testBit_lt_two_pow (Nat.lt_of_lt_of_le hx (by
      have : 2 ^ 8 ≤ 2 ^ i := Nat.pow_le_pow_right (by decide) (by omega)
      exact this))
    simp [h, this]
def mkI (x : Nat) : Nat → Int32
  | 0 => 0
  | i + 1 => mkI x i ||| (if x.testBit i = true then (15 : Int32) <<< (nI (4 * i) &&& 31) else 0)
theorem bt_15 : ∀ i, i < 32 → bt 15 i = decide (i < 4) := by decide +kernel
theorem bt_mkI {x : Nat} : ∀ n, n ≤ 8 → ∀ i, i < 32 → bt (mkI x n) i = (decide (i < 4 * n) && x.testBit (i / 4))
  | 0, _, i, _ => by simp [mkI, b_0]
  | n + 1, hn, i, hi => by
    unfold mkI
    rw [b_or, bt_mkI n (by omega) i hi]
    have h2 : bt (if x.testBit n = true then (15 : Int32) <<< (nI (4 * n) &&& 31) else 0) i = (x.testBit n && (decide (4 * n ≤ i) && decide (i < 4 * (n + 1)))) := by
      cases x.testBit n with
      | false => simp [b_0]
      | true =>
        rw [if_pos rfl, b_shl (4 * n) (by omega) _ hi]
        by_cases h : 4 * n ≤ i
        · rw [bt_15 (i - 4 * n) (by omega)]
          by_cases h3 : i < 4 * (n + 1)
          · simp [h, h3, show i - 4 * n < 4 by omega]
          · simp [h, h3, show ¬ i - 4 * n < 4 by omega]
        · simp [h]
    rw [h2]
    by_cases h1 : i < 4 * n
    · have h3 : i < 4 * (n + 1) := by omega
      simp [h1, h3, show ¬ 4 * n ≤ i by omega]
    · by_cases h3 : i < 4 * (n + 1)
      · have : i / 4 = n := by omega
        rw [this]
        simp [h1, h3, show 4 * n ≤ i by omega]
      · simp [h1, h3]
theorem tb_nib {N s j : Nat} (hj : j < 4) : N.testBit (4 * s + j) = (N / 2 ^ (4 * s) % 16).testBit j := by
  rw [show (16 : Nat) = 2 ^ 4 from rfl, Nat.testBit_mod_two_pow, Nat.testBit_div_two_pow]
  simp [hj, Nat.add_comm]
theorem nib_pos : ∀ c, c ≤ 15 → 0 < c → ∃ j, j < 4 ∧ c.testBit j = true := by
  intro c hc hp
  have : ∀ c, c < 16 → c ≠ 0 → (c.testBit 0 || c.testBit 1 || c.testBit 2 || c.testBit 3) = true := by decide +kernel
  have h := this c (by omega) (by omega)
  simp only [Bool.or_eq_true] at h
  rcases h with ((h | h) | h) | h
  · exact ⟨0, by decide, h⟩
  · exact ⟨1, by decide, h⟩
  · exact ⟨2, by decide, h⟩
  · exact ⟨3, by decide, h⟩
theorem sub_c {T : TG} {l x : Nat} (hx : x < 256) : (nI (stL T l) &&& (nI x ^^^ (-1)) = 0) ↔ ∀ s, s < 8 → 0 < cn T l s → x.testBit s = true := by
  rw [stL_ms, x256 hx, i32_0]
  constructor
  · intro h s hs hp
    have h1 := h s (by omega)
    rw [b_and, b_xor, bt_ms (by omega), bt_ms (by omega), b_m1 s (by omega)] at h1
    simpa [hs, hp] using h1
  · intro h i hi
    rw [b_and, b_xor, bt_ms hi, bt_ms hi, b_m1 i hi]
    by_cases h8 : i < 8
    · by_cases hp : 0 < cn T l i
      · simp [h8, h i h8 hp]
      · simp [hp]
    · simp [h8]
theorem sub_m {c : Nat → Nat} {x : Nat} (hc : ∀ s, s < 8 → c s ≤ 15) : (nI (pk 4 c) &&& (mkI x 8 ^^^ (-1)) = 0) ↔ ∀ s, s < 8 → 0 < c s → x.testBit s = true := by
  have hg := (pk4_get hc).2
  have hb : ∀ s j, s < 8 → j < 4 → bt (nI (pk 4 c)) (4 * s + j) = (c s).testBit j := by
    intro s j hs hj
    rw [bt_nI _ (by omega), tb_nib hj, hg s hs]
  have hm : ∀ s j, s < 8 → j < 4 → bt (mkI x 8) (4 * s + j) = x.testBit s := by
    intro s j hs hj
    rw [bt_mkI 8 (by omega) _ (by omega), show (4 * s + j) / 4 = s by omega]
    simp [show 4 * s + j < 4 * 8 by omega]
  rw [i32_0]
  constructor
  · intro h s hs hp
    obtain ⟨j, hj, hjb⟩ := nib_pos (c s) (hc s hs) hp
    have h1 := h (4 * s + j) (by omega)
    rw [b_and, b_xor, hb s j hs hj, hm s j hs hj, hjb, b_m1 _ (by omega)] at h1
    simpa using h1
  · intro h i hi
    have h1 := hb (i / 4) (i % 4) (by omega) (by omega)
    have h2 := hm (i / 4) (i % 4) (by omega) (by omega)
    rw [show 4 * (i / 4) + i % 4 = i by omega] at h1 h2
    rw [b_and, b_xor, h1, h2, b_m1 i hi]
    by_cases hp : 0 < c (i / 4)
    · rw [h (i / 4) (by omega) hp]; simp
    · have : c (i / 4) = 0 := by omega
      rw [this]; simp
theorem m_wiS {M : MM} {sp dr k many : Nat} {K P a : Int32} (L : LAY M sp dr) (h12 : gI M 81 12 = nI many) (hm : many < 820) (hk : k < many) (t : gI M 89 k = P) {q : Bool} (hq : (P &&& (K ^^^ (-1)) = 0) ↔ q = true) : z_X7_writtenIn_43 M 81 K a (nI k) = some (.inr (if q = true then a + 1 else a, nI (k + 1))) := by
  have hN := L.1
  have c1 : ¬ nI many ≤ nI k := fun e => by have := (nI_leI (by omega) (by omega)).mp e; omega
  have r9 : fR M 81 7 9 = some 89 := by rw [fR_e hN (by decide) rfl]; exact ly_81_9 L
  have ak := aI_e (p := 89) (i := k) hN (by decide) rfl (by rw [lnv_89]; omega)
  rw [t] at ak
  have f12 := fI_e (p := 81) (c := 7) (k := 12) hN (by decide) rfl
  rw [h12] at f12
  unfold z_X7_writtenIn_43
  rw [f12, Option.bind_some, if_neg c1, r9, Option.bind_some, ak, Option.bind_some]
  unfold j_X7_writtenIn_72
  rw [nI_1]
  cases q with
  | true => rw [if_pos (hq.mpr rfl), if_pos rfl]
  | false => rw [if_neg (fun e => Bool.false_ne_true (hq.mp e)), if_neg (by decide), show a + 0 = a from Int32.add_zero a]
theorem m_wiL {M : MM} {T : TG} {sp dr x : Nat} {K : Int32} (L : LAY M sp dr) (hLs : LST M T) (hK : ∀ k (h : k < (Lt T).length), (nI (pk 4 (cn T (Lt T)[k])) &&& (K ^^^ (-1)) = 0) ↔ subS (stL T (Lt T)[k]) x = true) : lp (fun t => z_X7_writtenIn_43 M 81 K t.1 t.2) FU (0, 0) = some (nI (wi T x)) := by
  have hN := L.1
  have hlen := Lt_819 (T := T)
  have hw : wi T x = (Lt T).countP (fun l => subS (stL T l) x) := rfl
  rw [hw, ← cntI_nI]
  refine lp_ref (T := T) (mk := fun A c => (cntI (fun l => subS (stL T l) x) A, c)) (fun k hk => ?_) ?_
  · rw [cntI_app, cntS]
    exact m_wiS L hLs.1 (by omega) hk (hLs.2 k hk).2.1 (hK k hk)
  · have c1 : nI (Lt T).length ≤ nI (Lt T).length := Int32.le_refl _
    simp [z_X7_writtenIn_43, fI_e, aI_l, aZ_l, aR_l, waI_l, waZ_l, fJ_e, fR_e, wfI_e, wfZ_e, wfJ_e, wfR_e, aI_e, aZ_e, aJ_e, aR_e, waI_e, waZ_e, waJ_e, n_sI, n_sJ, n_sR, gI_sI, gI_sJ, gI_sR, gJ_sI, gJ_sJ, gJ_sR, gR_sI, gR_sJ, gR_sR, Option.bind_some, Option.map_some, kdv_0, kdv_1, kdv_2, kdv_3, kdv_4, kdv_5, kdv_6, kdv_7, kdv_8, kdv_9, kdv_10, kdv_11, kdv_12, kdv_13, kdv_14, kdv_15, kdv_16, kdv_17, kdv_18, kdv_19, kdv_20, kdv_21, kdv_22, kdv_23, kdv_24, kdv_25, kdv_26, kdv_27, kdv_28, kdv_29, kdv_30, kdv_31, kdv_32, kdv_33, kdv_34, kdv_35, kdv_36, kdv_37, kdv_38, kdv_39, kdv_40, kdv_41, kdv_42, kdv_43, kdv_44, kdv_45, kdv_46, kdv_47, kdv_48, kdv_49, kdv_50, kdv_51, kdv_52, kdv_53, kdv_54, kdv_55, kdv_56, kdv_57, kdv_58, kdv_59, kdv_60, kdv_61, kdv_62, kdv_63, kdv_64, kdv_65, kdv_66, kdv_67, kdv_68, kdv_69, kdv_70, kdv_71, kdv_72, kdv_73, kdv_74, kdv_75, kdv_76, kdv_77, kdv_78, kdv_79, kdv_80, kdv_81, kdv_82, kdv_83, kdv_84, kdv_85, kdv_86, kdv_87, kdv_88, kdv_89, kdv_90, kdv_91, kdv_92, lnv_2, lnv_4, lnv_5, lnv_6, lnv_7, lnv_8, lnv_9, lnv_10, lnv_11, lnv_12, lnv_13, lnv_14, lnv_15, lnv_17, lnv_18, lnv_20, lnv_22, lnv_24, lnv_25, lnv_53, lnv_54, lnv_82, lnv_83, lnv_84, lnv_85, lnv_86, lnv_87, lnv_88, lnv_89, lnv_90, lnv_91, lnv_92, hN, hLs.1, c1]
theorem m_wiM {M : MM} {x i : Nat} {a : Int32} (hx : x < 256) (hi : i < 8) : z_X7_writtenIn_4 M 81 (nI x) a (nI i) = some (.inr (a ||| (if x.testBit i = true then (15 : Int32) <<< (nI (4 * i) &&& 31) else 0), nI (i + 1))) := by
  have c1 : ¬ (8 : Int32) ≤ nI i := fun e => by have := (nI_leI (a := 8) (by omega) (by omega)).mp e; omega
  have e4 : (4 : Int32) * nI i = nI (4 * i) := nI_mul 4 i
  have ht := ms_tb (g := fun s => x.testBit s) hi
  rw [← x256 hx] at ht
  unfold z_X7_writtenIn_4
  rw [if_neg c1]
  unfold j_X7_writtenIn_30
  rw [nI_1, e4]
  by_cases hb : x.testBit i = true
  · rw [if_pos (ht.mpr hb), if_pos hb]
  · rw [if_neg (fun e => hb (ht.mp e)), if_neg hb]
theorem m_wiE {M : MM} {X K r : Int32} (h : lp (fun t => z_X7_writtenIn_43 M 81 K t.1 t.2) FU (0, 0) = some r) : z_X7_writtenIn_4 M 81 X K (nI 8) = some (.inl r) := by
  unfold z_X7_writtenIn_4
  rw [if_pos (by decide), h]
  rfl
theorem m_writtenIn {M : MM} {T : TG} {sp dr x : Nat} (L : LAY M sp dr) (hT : TOK T) (hLs : LST M T) (hx : x < 256) : f_X7_writtenIn M 81 (nI x) = some (nI (wi T x)) := by
  have g : 81 < M.1 ∧ kd 81 = 7 := by rw [L.1]; decide
  unfold f_X7_writtenIn
  rw [if_pos g]
  refine lp_run (st := fun i => (mkI x i, nI i)) 8 (fun i hi => m_wiM hx hi) (m_wiE (m_wiL L hLs (fun k hk => ?_))) FU (show 8 < 4000 by omega)
  have hrk := isL_row (Lt_at hk).2
  rw [sub_m (fun s _ => cn_le hT hrk)]
  unfold subS
  rw [decide_eq_true_iff, sub_c hx]
def pcU (s i : Nat) : Nat := (List.range i).countP s.testBit
theorem bc_k : ∀ s, s < 256 → f_J6_bitCount_0f7a4 M0 (nI s) = some (nI (pcU s 8)) := by decide +kernel
theorem c_bc {M : MM} {s : Nat} (hs : s < 256) : f_J6_bitCount_0f7a4 M (nI s) = some (nI (pcU s 8)) := bc_k s hs
theorem m_ones {M : MM} {s : Nat} (hs : s < 256) : f_X7_ones M (nI s) = some (nI (pcU s 8)) := by
  unfold f_X7_ones
  rw [show ((0, 0) : Int32 × Int32) = (nI (pcU s 0), nI 0) from rfl]
  refine lp_run (st := fun i => (nI (pcU s i), nI i)) 8 (fun i hi => ?_) ?_ FU (show 8 < 4000 by omega)
  · have c1 : ¬ 8 ≤ i := by omega
    have c2 : i < 2147483648 := by omega
    have e1 : nI i + 1 = nI (i + 1) := nI_1 i
    have hv : ((nI s >>> (nI i &&& 31)) &&& 1) = nI (if s.testBit i = true then 1 else 0) := by
      apply b_ext
      intro j hj
      rw [b_and, b_sshr i (by omega) _ hj, bt_1 j hj]
      by_cases h0 : j = 0
      · subst h0
        rw [if_pos (by omega), Nat.add_zero, bt_nI _ (by omega)]
        cases s.testBit i with
        | true => simp; decide
        | false => simp; decide
      · rw [decide_eq_false h0, Bool.and_false]
        split
        · rw [show nI 1 = (1 : Int32) from rfl, bt_1 j hj, decide_eq_false h0]
        · rw [n00, b_0]
    have hp : pcU s (i + 1) = pcU s i + (if s.testBit i = true then 1 else 0) := by
      unfold pcU
      rw [List.range_succ, List.countP_append, List.countP_cons, List.countP_nil]
      omega
    rw [hp, ← nI_add]
    simp only [z_X7_ones_4, l_le_n c2 (show 8 < 2147483648 by decide), c1, if_false, hv, e1]
  · have c1 : (8 : Int32) ≤ nI 8 := by decide
    simp only [z_X7_ones_4, if_pos c1]
noncomputable def bsS (T : TG) (k : Nat) (b : Option Nat) (s : Nat) : Option Nat := if pcU s 8 = k ∧ (b = none ∨ wi T (b.getD 0) < wi T s) then some s else b
noncomputable def bs (T : TG) (k i : Nat) : Option Nat := (List.range i).foldl (bsS T k) none
theorem bs_s {T : TG} {k i : Nat} : bs T k (i + 1) = bsS T k (bs T k i) i := by
  unfold bs
  rw [List.range_succ, List.foldl_append]
  rfl
theorem bs_some {T : TG} {k s : Nat} (h : pcU s 8 = k) : ∀ i, s < i → ∃ b, bs T k i = some b
  | 0, hi => absurd hi (by omega)
  | i + 1, hi => by
    rw [bs_s, bsS]
    by_cases hs : s = i
    · subst hs
      cases hb : bs T k s with
      | none => exact ⟨s, by rw [if_pos ⟨h, Or.inl rfl⟩]⟩
      | some b =>
        split
        · exact ⟨_, rfl⟩
        · exact ⟨_, rfl⟩
    · obtain ⟨b, hb⟩ := bs_some h i (by omega)
      rw [hb]
      split
      · exact ⟨_, rfl⟩
      · exact ⟨_, rfl⟩
noncomputable def wo (T : TG) (n : Int32) (b : Option Nat) : Int32 := match b with | none => n | some s => nI (wi T s)
theorem wo_le {T : TG} {n : Int32} {b : Option Nat} {x : Nat} (hn : n < 0) (hx : x ≤ 819) : (nI x ≤ wo T n b) ↔ ¬ (b = none ∨ wi T (b.getD 0) < x) := by
  cases b with
  | none =>
    simp only [true_or, not_true_eq_false, iff_false]
    intro e
    exact nI_pos (show x < 2 ^ 31 by omega) (Int32.lt_of_le_of_lt e hn)
  | some s =>
    have h := wi_le (T := T) (x := s)
    have e : (nI x ≤ wo T n (some s)) ↔ x ≤ wi T s := nI_leI (by omega) (by omega)
    rw [e]
    simp
theorem c_bestSet {M : MM} {T : TG} {sp dr k : Nat} (L : LAY M sp dr) (hS : SAY M T) (hk : k < 9) : f_X1_bestSet M 3 (nI k) = some (nI ((bs T k 256).getD 0)) := by
  have hN := L.1
  simp only [f_X1_bestSet, hN, kdv_3]
  rw [if_pos (by decide), show ((0, -1, 0) : Int32 × Int32 × Int32) = (nI ((bs T k 0).getD 0), wo T (-1) (bs T k 0), nI 0) from rfl]
  refine lp_run (st := fun i => (nI ((bs T k i).getD 0), wo T (-1) (bs T k i), nI i)) 256 (fun i hi => ?_) ?_ FU (show 256 < 4000 by omega)
  · have c1 : ¬ 256 ≤ i := by omega
    have c2 : i < 2147483648 := by omega
    have e1 : nI i + 1 = nI (i + 1) := nI_1 i
    have hbc := c_bc (M := M) hi
    have hcw := c_countWithin (x := i) L hS
    have hle := wo_le (T := T) (n := -1) (b := bs T k i) (x := wi T i) (by decide) wi_le
    have hp8 : pcU i 8 ≤ 8 := by
      have := List.countP_le_length (p := i.testBit) (l := List.range 8)
      simpa [pcU] using this
    have hpk : (nI (pcU i 8) = nI k) = (pcU i 8 = k) := nn_eq (by omega) (by omega)
    simp only [bs_s, bsS]
    generalize bs T k i = b at hle ⊢
    generalize hW : wi T i = W at hcw hle ⊢
    generalize pcU i 8 = p at hbc hpk ⊢
    have hwo : wo T (-1) (some i) = nI W := by rw [← hW]; rfl
    by_cases hpk2 : p = k
    · subst hpk2
      by_cases hq : b = none ∨ wi T (b.getD 0) < W
      · have hq2 : ¬ nI W ≤ wo T (-1) b := fun e => hle.mp e hq
        rw [if_pos ⟨rfl, hq⟩, hwo]
        simp [z_X1_bestSet_7, l_le_n, c1, c2, hbc, hcw, hq2, j_X1_bestSet_44, e1]
      · have hq2 : nI W ≤ wo T (-1) b := hle.mpr hq
        rw [if_neg (fun e => hq e.2)]
        simp [z_X1_bestSet_7, l_le_n, c1, c2, hbc, hcw, hq2, j_X1_bestSet_44, e1]
    · rw [if_neg (fun e => hpk2 e.1)]
      simp [z_X1_bestSet_7, l_le_n, c1, c2, hbc, hpk, hpk2, j_X1_bestSet_44, e1]
  · have c1 : (256 : Int32) ≤ nI 256 := by decide
    simp only [z_X1_bestSet_7, if_pos c1]
theorem wo_9 {T : TG} {b : Option Nat} : (-9 : Int32) ≤ wo T (-9) b := by
  cases b with
  | none => exact Int32.le_refl _
  | some s => exact Int32.le_of_lt (neg_lt (by decide) _ (by have := wi_le (T := T) (x := s); omega))
theorem m_alpha {M : MM} {T : TG} {sp dr k : Nat} {y : Int32} (L : LAY M sp dr) (hT : TOK T) (hLs : LST M T) (hk : k < 9) : lp (fun t => z_X7_alphabet_30 M 81 (nI k) y t.1 t.2.1 t.2.2) FU (-9, 0, 0) = some (if y = 0 then nI ((bs T k 256).getD 0) else wo T (-9) (bs T k 256)) := by
  have hN := L.1
  rw [show ((-9, 0, 0) : Int32 × Int32 × Int32) = (wo T (-9) (bs T k 0), nI ((bs T k 0).getD 0), nI 0) from rfl]
  refine lp_run (st := fun i => (wo T (-9) (bs T k i), nI ((bs T k i).getD 0), nI i)) 256 (fun i hi => ?_) ?_ FU (show 256 < 4000 by omega)
  · have c1 : ¬ 256 ≤ i := by omega
    have c2 : i < 2147483648 := by omega
    have e1 : nI i + 1 = nI (i + 1) := nI_1 i
    have hbc := m_ones (M := M) hi
    have hcw := m_writtenIn L hT hLs hi
    have hle := wo_le (T := T) (n := -9) (b := bs T k i) (x := wi T i) (by decide) wi_le
    have hp8 : pcU i 8 ≤ 8 := by
      have := List.countP_le_length (p := i.testBit) (l := List.range 8)
      simpa [pcU] using this
    have hpk : (nI (pcU i 8) = nI k) = (pcU i 8 = k) := nn_eq (by omega) (by omega)
    simp only [bs_s, bsS]
    generalize bs T k i = b at hle ⊢
    have h9 := wo_9 (T := T) (b := b)
    generalize hW : wi T i = W at hcw hle ⊢
    generalize pcU i 8 = p at hbc hpk ⊢
    have hwo : wo T (-9) (some i) = nI W := by rw [← hW]; rfl
    by_cases hpk2 : p = k
    · subst hpk2
      by_cases hq : b = none ∨ wi T (b.getD 0) < W
      · have hq2 : ¬ nI W ≤ wo T (-9) b := fun e => hle.mp e hq
        rw [if_pos ⟨rfl, hq⟩, hwo]
        simp [z_X7_alphabet_30, l_le_n, c1, c2, hbc, hcw, hq2, j_X7_alphabet_58, j_X7_alphabet_73, j_X7_alphabet_87, e1]
      · have hq2 : nI W ≤ wo T (-9) b := hle.mpr hq
        rw [if_neg (fun e => hq e.2)]
        simp [z_X7_alphabet_30, l_le_n, c1, c2, hbc, hcw, hq2, j_X7_alphabet_58, j_X7_alphabet_73, j_X7_alphabet_87, e1]
    · rw [if_neg (fun e => hpk2 e.1)]
      simp [z_X7_alphabet_30, l_le_n, c1, c2, hbc, hpk, hpk2, h9, j_X7_alphabet_58, j_X7_alphabet_73, j_X7_alphabet_87, e1]
  · have c1 : (256 : Int32) ≤ nI 256 := by decide
    by_cases hy : y = 0
    · simp [z_X7_alphabet_30, c1, hy]
    · simp [z_X7_alphabet_30, c1, hy]
theorem pc_ex : ∀ k, k < 9 → pcU (2 ^ k - 1) 8 = k ∧ 2 ^ k - 1 < 256 := by decide +kernel
theorem eq_alphabet {M : MM} {T : TG} {sp dr : Nat} (I : Inv M T sp dr) (x y : Int32) : ∃ r, f_X6_alphabet M 0 x y = some r ∧ f_X7_alphabet M 81 x y = some r := by
  obtain ⟨L, hT, hC, hM, hS, hLs, hX, hP, hI0, hI1, hJ⟩ := id I
  have hN := L.1
  obtain ⟨n, hn, x1, x2, x3⟩ := hX
  obtain ⟨k, hk, p1, p2, p3⟩ := hP
  have hst : sp = 23 ∨ sp = 52 := by rcases L.2.1 with ⟨h, -⟩ | ⟨h, -⟩ <;> omega
  obtain ⟨ks0, ks1, ks2, ks3, ks4, ks5, ks6, ks7, ks8⟩ := tkf hst
  obtain ⟨lt0, lt1, lt2, lt3⟩ := ly_t L sp hst

  rcases i_cases x with h | ⟨k, hk, rfl⟩
  · have h1 : x < 1 := neg_lt h 1 (by decide)
    exact ⟨-1, by simp [f_X6_alphabet, hN, kdv_0, h1], by simp [f_X7_alphabet, hN, kdv_81, f_X7_in, h1]⟩
  · have hin := m_in (M := M) (j := k) (a := 1) (b := 8) hk (by decide) (by decide)
    rw [show nI 1 = (1 : Int32) from rfl, show nI 8 = (8 : Int32) from rfl] at hin
    by_cases h1 : 1 ≤ k
    · have c1 : ¬ k = 0 := by omega
      by_cases h8 : k ≤ 8
      · have c8 : ¬ 8 < k := by omega
        rcases what_01 (M := M) (x := y) with ⟨w1, w2⟩ | ⟨w1, w2⟩
        · refine ⟨-1, ?_, by simp [f_X7_alphabet, hN, kdv_81, hin, h1, h8, w2]⟩
          rcases w1 with w1 | w1
          · simp [f_X6_alphabet, hN, kdv_0, n_lt_l, l_lt_n, hk, c1, c8, w1]
          · simp [f_X6_alphabet, hN, kdv_0, n_lt_l, l_lt_n, hk, c1, c8, w1]
        · have hm : f_X7_alphabet M 81 (nI k) y = some (if y = 0 then nI ((bs T k 256).getD 0) else wo T (-9) (bs T k 256)) := by
            simp only [f_X7_alphabet, hN, kdv_81]
            rw [if_pos (by decide), hin, Option.bind_some, if_neg (by simp [h1, h8]), w2, Option.bind_some, if_neg (by decide)]
            exact m_alpha L hT hLs (by omega)
          refine ⟨_, ?_, hm⟩
          have hcs := c_bestSet (k := k) L hS (by omega)
          obtain ⟨b, hb⟩ := bs_some (T := T) (pc_ex k (by omega)).1 256 (pc_ex k (by omega)).2
          have hcw := c_countWithin (x := b) L hS
          rw [hb] at hcs ⊢
          rw [Option.getD_some] at hcs
          rcases w1 with rfl | rfl
          · simp [f_X6_alphabet, fI_e, aI_l, aZ_l, aR_l, waI_l, waZ_l, fJ_e, fR_e, wfI_e, wfZ_e, wfJ_e, wfR_e, aI_e, aZ_e, aJ_e, aR_e, waI_e, waZ_e, waJ_e, n_sI, n_sJ, n_sR, gI_sI, gI_sJ, gI_sR, gJ_sI, gJ_sJ, gJ_sR, gR_sI, gR_sJ, gR_sR, Option.bind_some, Option.map_some, kdv_0, kdv_1, kdv_2, kdv_3, kdv_4, kdv_5, kdv_6, kdv_7, kdv_8, kdv_9, kdv_10, kdv_11, kdv_12, kdv_13, kdv_14, kdv_15, kdv_16, kdv_17, kdv_18, kdv_19, kdv_20, kdv_21, kdv_22, kdv_23, kdv_24, kdv_25, kdv_26, kdv_27, kdv_28, kdv_29, kdv_30, kdv_31, kdv_32, kdv_33, kdv_34, kdv_35, kdv_36, kdv_37, kdv_38, kdv_39, kdv_40, kdv_41, kdv_42, kdv_43, kdv_44, kdv_45, kdv_46, kdv_47, kdv_48, kdv_49, kdv_50, kdv_51, kdv_52, kdv_53, kdv_54, kdv_55, kdv_56, kdv_57, kdv_58, kdv_59, kdv_60, kdv_61, kdv_62, kdv_63, kdv_64, kdv_65, kdv_66, kdv_67, kdv_68, kdv_69, kdv_70, kdv_71, kdv_72, kdv_73, kdv_74, kdv_75, kdv_76, kdv_77, kdv_78, kdv_79, kdv_80, kdv_81, kdv_82, kdv_83, kdv_84, kdv_85, kdv_86, kdv_87, kdv_88, kdv_89, kdv_90, kdv_91, kdv_92, lnv_2, lnv_4, lnv_5, lnv_6, lnv_7, lnv_8, lnv_9, lnv_10, lnv_11, lnv_12, lnv_13, lnv_14, lnv_15, lnv_17, lnv_18, lnv_20, lnv_22, lnv_24, lnv_25, lnv_53, lnv_54, lnv_82, lnv_83, lnv_84, lnv_85, lnv_86, lnv_87, lnv_88, lnv_89, lnv_90, lnv_91, lnv_92, hN, (ly_0_0 L), (ly_0_1 L), (ly_0_2 L), (ly_0_3 L), (ly_0_4 L), (ly_0_5 L), (ly_1_0 L), (ly_3_0 L), (ly_3_1 L), (ly_3_2 L), (ly_3_3 L), (ly_3_4 L), (ly_3_5 L), (ly_3_6 L), (ly_3_7 L), (ly_3_8 L), (ly_3_10 L), (ly_3_11 L), (ly_3_12 L), (ly_16_0 L), (ly_18_0 L), (ly_18_1 L), (ly_19_0 L), (ly_21_0 L), (ly_81_1 L), (ly_81_3 L), (ly_81_4 L), (ly_81_5 L), (ly_81_6 L), (ly_81_7 L), (ly_81_8 L), (ly_81_9 L), (ly_81_10 L), (ly_81_11 L), (ly_81_17 L), n_lt_l, l_lt_n, hk, c1, c8, hcs]
          · simp [f_X6_alphabet, fI_e, aI_l, aZ_l, aR_l, waI_l, waZ_l, fJ_e, fR_e, wfI_e, wfZ_e, wfJ_e, wfR_e, aI_e, aZ_e, aJ_e, aR_e, waI_e, waZ_e, waJ_e, n_sI, n_sJ, n_sR, gI_sI, gI_sJ, gI_sR, gJ_sI, gJ_sJ, gJ_sR, gR_sI, gR_sJ, gR_sR, Option.bind_some, Option.map_some, kdv_0, kdv_1, kdv_2, kdv_3, kdv_4, kdv_5, kdv_6, kdv_7, kdv_8, kdv_9, kdv_10, kdv_11, kdv_12, kdv_13, kdv_14, kdv_15, kdv_16, kdv_17, kdv_18, kdv_19, kdv_20, kdv_21, kdv_22, kdv_23, kdv_24, kdv_25, kdv_26, kdv_27, kdv_28, kdv_29, kdv_30, kdv_31, kdv_32, kdv_33, kdv_34, kdv_35, kdv_36, kdv_37, kdv_38, kdv_39, kdv_40, kdv_41, kdv_42, kdv_43, kdv_44, kdv_45, kdv_46, kdv_47, kdv_48, kdv_49, kdv_50, kdv_51, kdv_52, kdv_53, kdv_54, kdv_55, kdv_56, kdv_57, kdv_58, kdv_59, kdv_60, kdv_61, kdv_62, kdv_63, kdv_64, kdv_65, kdv_66, kdv_67, kdv_68, kdv_69, kdv_70, kdv_71, kdv_72, kdv_73, kdv_74, kdv_75, kdv_76, kdv_77, kdv_78, kdv_79, kdv_80, kdv_81, kdv_82, kdv_83, kdv_84, kdv_85, kdv_86, kdv_87, kdv_88, kdv_89, kdv_90, kdv_91, kdv_92, lnv_2, lnv_4, lnv_5, lnv_6, lnv_7, lnv_8, lnv_9, lnv_10, lnv_11, lnv_12, lnv_13, lnv_14, lnv_15, lnv_17, lnv_18, lnv_20, lnv_22, lnv_24, lnv_25, lnv_53, lnv_54, lnv_82, lnv_83, lnv_84, lnv_85, lnv_86, lnv_87, lnv_88, lnv_89, lnv_90, lnv_91, lnv_92, hN, (ly_0_0 L), (ly_0_1 L), (ly_0_2 L), (ly_0_3 L), (ly_0_4 L), (ly_0_5 L), (ly_1_0 L), (ly_3_0 L), (ly_3_1 L), (ly_3_2 L), (ly_3_3 L), (ly_3_4 L), (ly_3_5 L), (ly_3_6 L), (ly_3_7 L), (ly_3_8 L), (ly_3_10 L), (ly_3_11 L), (ly_3_12 L), (ly_16_0 L), (ly_18_0 L), (ly_18_1 L), (ly_19_0 L), (ly_21_0 L), (ly_81_1 L), (ly_81_3 L), (ly_81_4 L), (ly_81_5 L), (ly_81_6 L), (ly_81_7 L), (ly_81_8 L), (ly_81_9 L), (ly_81_10 L), (ly_81_11 L), (ly_81_17 L), n_lt_l, l_lt_n, hk, c1, c8, hcs, hcw, wo]
      · have c8 : 8 < k := by omega
        exact ⟨-1, by simp [f_X6_alphabet, hN, kdv_0, n_lt_l, l_lt_n, hk, c1, c8], by simp [f_X7_alphabet, hN, kdv_81, hin, h8]⟩
    · have c1 : k = 0 := by omega
      exact ⟨-1, by simp [f_X6_alphabet, hN, kdv_0, n_lt_l, l_lt_n, hk, c1], by simp [f_X7_alphabet, hN, kdv_81, hin, h1]⟩
