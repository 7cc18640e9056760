/-! PURE: sets of signs; bar -/
theorem ms_k : ∀ b0 b1 b2 b3 b4 b5 b6 b7 : Bool, ∀ i, i < 32 → Nat.testBit ((if b0 = true then 1 else 0) + (if b1 = true then 1 else 0) * 2 ^ 1 + (if b2 = true then 1 else 0) * 2 ^ (2 * 1) + (if b3 = true then 1 else 0) * 2 ^ (3 * 1) + (if b4 = true then 1 else 0) * 2 ^ (4 * 1) + (if b5 = true then 1 else 0) * 2 ^ (5 * 1) + (if b6 = true then 1 else 0) * 2 ^ (6 * 1) + (if b7 = true then 1 else 0) * 2 ^ (7 * 1)) i = (if i = 0 then b0 else if i = 1 then b1 else if i = 2 then b2 else if i = 3 then b3 else if i = 4 then b4 else if i = 5 then b5 else if i = 6 then b6 else if i = 7 then b7 else false) := by decide +kernel
def ms (g : Nat → Bool) : Int32 := nI (pk 1 fun s => if g s = true then 1 else 0)
theorem bt_ms {g : Nat → Bool} {i : Nat} (hi : i < 32) : bt (ms g) i = (decide (i < 8) && g i) := by
  unfold ms pk
  rw [bt_nI _ hi]
  refine (ms_k (g 0) (g 1) (g 2) (g 3) (g 4) (g 5) (g 6) (g 7) i hi).trans ?_
  by_cases h : i < 8
  · rcases (show i = 0 ∨ i = 1 ∨ i = 2 ∨ i = 3 ∨ i = 4 ∨ i = 5 ∨ i = 6 ∨ i = 7 by omega) with rfl | rfl | rfl | rfl | rfl | rfl | rfl | rfl <;> simp
  · rw [if_neg (by omega), if_neg (by omega), if_neg (by omega), if_neg (by omega), if_neg (by omega), if_neg (by omega), if_neg (by omega), if_neg (by omega)]
    simp [h]
theorem ms_ext {g h : Nat → Bool} (e : ∀ s, s < 8 → g s = h s) : ms g = ms h := by
  apply b_ext
  intro i hi
  rw [bt_ms hi, bt_ms hi]
  by_cases h8 : i < 8
  · rw [e i h8]
  · simp [h8]
theorem ms_and {g h : Nat → Bool} : ms g &&& ms h = ms (fun s => g s && h s) := by
  apply b_ext
  intro i hi
  rw [b_and, bt_ms hi, bt_ms hi, bt_ms hi]
  cases decide (i < 8) <;> simp
theorem ms_255 : (255 : Int32) = ms (fun _ => true) := by decide
theorem bt_1 : ∀ i, i < 32 → bt 1 i = decide (i = 0) := by decide +kernel
theorem ms_not {g : Nat → Bool} {s : Nat} (hs : s < 8) : ms g &&& (((1 : Int32) <<< (nI s &&& 31)) ^^^ (-1)) = ms (fun i => g i && decide (i ≠ s)) := by
  apply b_ext
  intro i hi
  rw [b_and, bt_ms hi, bt_ms hi, b_xor, b_m1 i hi, b_shl s (by omega) _ hi]
  by_cases h : s ≤ i
  · rw [bt_1 (i - s) (by omega)]
    by_cases h2 : i = s
    · subst h2; simp
    · have : ¬ i - s = 0 := by omega
      simp [h, h2, this]
  · have : ¬ i = s := by omega
    simp [h, this]
theorem ms_tb {g : Nat → Bool} {s : Nat} (hs : s < 8) : ((ms g >>> (nI s &&& 31)) &&& 1 = 1) ↔ g s = true := by
  have key : (ms g >>> (nI s &&& 31)) &&& 1 = if g s = true then 1 else 0 := by
    apply b_ext
    intro i hi
    rw [b_and, b_sshr s (by omega) _ hi, bt_1 i hi]
    by_cases h0 : i = 0
    · subst h0
      rw [if_pos (by omega), bt_ms (by omega), Nat.add_zero]
      cases g s with
      | true => simp [hs]; decide
      | false => simp; decide
    · have : decide (i = 0) = false := decide_eq_false h0
      rw [this, Bool.and_false]
      split
      · rw [bt_1 i hi, this]
      · rw [b_0]
  rw [key]
  cases g s with
  | true => simp
  | false => simp
theorem stL_ms {T : TG} {l : Nat} : nI (stL T l) = ms (fun s => decide (0 < cn T l s)) := by
  unfold stL ms
  congr 1
  refine pk_ext (fun s _ => ?_)
  simp
/-- the least sign at or behind s, of n -/
def up (g : Nat → Bool) : Nat → Nat → Int32
  | 0, _ => -9
  | n + 1, s => if g s = true then nI s else up g n (s + 1)
theorem c_up {M : MM} {g : Nat → Bool} : ∀ n fuel s, s + n = 8 → n < fuel → lp (fun t => z_X1_leastCommonSign_59 M (ms g) t) fuel (nI s) = some (up g n s)
  | 0, fuel, s, h, hf => by
    obtain ⟨fuel, rfl⟩ : ∃ m, fuel = m + 1 := ⟨fuel - 1, by omega⟩
    obtain rfl : s = 8 := by omega
    have c1 : (8 : Int32) ≤ nI 8 := by decide
    simp [lp, z_X1_leastCommonSign_59, c1, up]
  | n + 1, fuel, s, h, hf => by
    obtain ⟨fuel, rfl⟩ : ∃ m, fuel = m + 1 := ⟨fuel - 1, by omega⟩
    have ih := c_up (M := M) (g := g) n fuel (s + 1) (by omega) (by omega)
    have c1 : ¬ 8 ≤ s := by omega
    have c2 : s < 2147483648 := by omega
    have e1 : nI s + 1 = nI (s + 1) := nI_1 s
    have ht := ms_tb (g := g) (s := s) (by omega)
    unfold lp
    by_cases hg : g s = true
    · simp [z_X1_leastCommonSign_59, l_le_n, c1, c2, ht, up, hg]
    · simp [z_X1_leastCommonSign_59, l_le_n, c1, c2, ht, up, hg, e1]
      exact ih
theorem m_up {M : MM} {g : Nat → Bool} {n : Int32} : lp (fun t => z_X7_bar_135 M (ms g) n t.1 t.2) FU (-9, 7) = some (if n = 0 then -5 else up g 8 0) := by
  rw [show ((-9, 7) : Int32 × Int32) = (up g 0 8, nI 8 - 1) from rfl]
  refine lp_run (st := fun i => (up g i (8 - i), nI (8 - i) - 1)) 8 (fun i hi => ?_) ?_ FU (show 8 < 4000 by omega)
  · obtain ⟨j, hj⟩ : ∃ j, 8 - i = j + 1 := ⟨7 - i, by omega⟩
    have hj2 : 8 - (i + 1) = j := by omega
    rw [hj, hj2]
    have e0 : nI (j + 1) - 1 = nI j := nI_pred j
    have c0 : ¬ nI j < 0 := nI_pos (by omega)
    have ht := ms_tb (g := g) (s := j) (by omega)
    have e2 : nI j + -1 = nI j - 1 := (Int32.sub_eq_add_neg (nI j) 1).symm
    by_cases hg : g j = true
    · simp [z_X7_bar_135, e0, c0, ht, hg, j_X7_bar_158, up, e2]
    · simp [z_X7_bar_135, e0, c0, ht, hg, j_X7_bar_158, up, e2]
  · have c0 : nI (8 - 8) - 1 < 0 := by decide
    simp only [z_X7_bar_135, if_pos c0]
    split <;> rfl
def cmS (T : TG) (p : Nat → Bool) (A : List Nat) (s : Nat) : Bool := A.all fun m => !(p m) || decide (0 < cn T m s)
theorem cmS_app {T : TG} {p : Nat → Bool} {A : List Nat} {m s : Nat} : cmS T p (A ++ [m]) s = (cmS T p A s && (!(p m) || decide (0 < cn T m s))) := by simp [cmS, List.all_append]
theorem c_least {M : MM} {T : TG} {sp dr : Nat} (L : LAY M sp dr) (hT : TOK T) (hS : SAY M T) {l s : Nat} (hl : l < 1000) (hL : isL T l = true) (hs : s < 1000) : f_X1_leastCommonSign M 3 (nI l) (nI s) = some (if (Lt T).find? (near T l s) = none then -5 else up (cmS T (near T l s) (Lt T)) 8 0) := by
  have hN := L.1
  simp only [f_X1_leastCommonSign, hN, kdv_3]
  rw [if_pos (by decide), ms_255]
  refine lp_cls (T := T) (mk := fun A c => (ms (cmS T (near T l s) A), b2i (!A.any (near T l s)), c)) (fun m h1 h2 hb => ?_) (fun m h1 h2 hb => ?_) ?_
  · have c1 : ¬ 1000 ≤ m := by omega
    have c2 : m < 2147483648 := by omega
    have e1 : nI m + 1 = nI (m + 1) := nI_1 _
    have hn : near T l s m = false := by simp [near, hb]
    have hb0 : b2i false = 0 := rfl
    simp [z_X1_leastCommonSign_10, l_le_n, c1, c2, c_near L hT hS hl h2 hL hs, hn, hb0, j_X1_leastCommonSign_42, e1]
  · have c1 : ¬ 1000 ≤ m := by omega
    have c2 : m < 2147483648 := by omega
    have e1 : nI m + 1 = nI (m + 1) := nI_1 _
    obtain ⟨-, -, -, -, -, t10⟩ := hS.2.2.1 m h2 (isL_row hb)
    rw [stL_ms] at t10
    have hb0 : b2i false = 0 := rfl
    have hb1 : b2i true = 1 := rfl
    have hcn := c_near L hT hS hl h2 hL hs
    have ha : (LB T m ++ [m]).any (near T l s) = ((LB T m).any (near T l s) || near T l s m) := by simp
    have he : ms (cmS T (near T l s) (LB T m ++ [m])) = ms (fun x => cmS T (near T l s) (LB T m) x && (!(near T l s m) || decide (0 < cn T m x))) := ms_ext (fun x _ => cmS_app)
    rw [ha, he]
    generalize (LB T m).any (near T l s) = an
    generalize cmS T (near T l s) (LB T m) = g
    generalize near T l s m = nv at hcn
    cases nv
    · simp [z_X1_leastCommonSign_10, l_le_n, c1, c2, hcn, hb0, j_X1_leastCommonSign_42, e1]
    · simp [z_X1_leastCommonSign_10, fI_e, aI_l, aZ_l, aR_l, waI_l, waZ_l, fJ_e, fR_e, wfI_e, wfZ_e, wfJ_e, wfR_e, aI_e, aZ_e, aJ_e, aR_e, waI_e, waZ_e, waJ_e, n_sI, n_sJ, n_sR, gI_sI, gI_sJ, gI_sR, gJ_sI, gJ_sJ, gJ_sR, gR_sI, gR_sJ, gR_sR, Option.bind_some, Option.map_some, kdv_0, kdv_1, kdv_2, kdv_3, kdv_4, kdv_5, kdv_6, kdv_7, kdv_8, kdv_9, kdv_10, kdv_11, kdv_12, kdv_13, kdv_14, kdv_15, kdv_16, kdv_17, kdv_18, kdv_19, kdv_20, kdv_21, kdv_22, kdv_23, kdv_24, kdv_25, kdv_26, kdv_27, kdv_28, kdv_29, kdv_30, kdv_31, kdv_32, kdv_33, kdv_34, kdv_35, kdv_36, kdv_37, kdv_38, kdv_39, kdv_40, kdv_41, kdv_42, kdv_43, kdv_44, kdv_45, kdv_46, kdv_47, kdv_48, kdv_49, kdv_50, kdv_51, kdv_52, kdv_53, kdv_54, kdv_55, kdv_56, kdv_57, kdv_58, kdv_59, kdv_60, kdv_61, kdv_62, kdv_63, kdv_64, kdv_65, kdv_66, kdv_67, kdv_68, kdv_69, kdv_70, kdv_71, kdv_72, kdv_73, kdv_74, kdv_75, kdv_76, kdv_77, kdv_78, kdv_79, kdv_80, kdv_81, kdv_82, kdv_83, kdv_84, kdv_85, kdv_86, kdv_87, kdv_88, kdv_89, kdv_90, kdv_91, kdv_92, lnv_2, lnv_4, lnv_5, lnv_6, lnv_7, lnv_8, lnv_9, lnv_10, lnv_11, lnv_12, lnv_13, lnv_14, lnv_15, lnv_17, lnv_18, lnv_20, lnv_22, lnv_24, lnv_25, lnv_53, lnv_54, lnv_82, lnv_83, lnv_84, lnv_85, lnv_86, lnv_87, lnv_88, lnv_89, lnv_90, lnv_91, lnv_92, hN, (ly_0_0 L), (ly_0_1 L), (ly_0_2 L), (ly_0_3 L), (ly_0_4 L), (ly_0_5 L), (ly_1_0 L), (ly_3_0 L), (ly_3_1 L), (ly_3_2 L), (ly_3_3 L), (ly_3_4 L), (ly_3_5 L), (ly_3_6 L), (ly_3_7 L), (ly_3_8 L), (ly_3_10 L), (ly_3_11 L), (ly_3_12 L), (ly_16_0 L), (ly_18_0 L), (ly_18_1 L), (ly_19_0 L), (ly_21_0 L), (ly_81_1 L), (ly_81_3 L), (ly_81_4 L), (ly_81_5 L), (ly_81_6 L), (ly_81_7 L), (ly_81_8 L), (ly_81_9 L), (ly_81_10 L), (ly_81_11 L), (ly_81_17 L), l_le_n, c1, c2, h2, hcn, hb0, hb1, t10, j_X1_leastCommonSign_42, e1, ms_and]
  · have hu := c_up (M := M) (g := cmS T (near T l s) (Lt T)) 8 FU 0 rfl (show 8 < 4000 by decide)
    rw [n00] at hu
    by_cases h : (Lt T).find? (near T l s) = none
    · have ha : (Lt T).any (near T l s) = false := by
        rw [Bool.eq_false_iff]
        intro e
        obtain ⟨m, hm, h2⟩ := List.any_eq_true.mp e
        exact (List.find?_eq_none.mp h) m hm h2
      have hb1 : b2i true = 1 := rfl
      rw [ha, if_pos h]
      simp [z_X1_leastCommonSign_10, hb1]
    · have ha : (Lt T).any (near T l s) = true := by
        rw [← Bool.not_eq_false]
        intro e
        refine h (List.find?_eq_none.mpr (fun m hm h2 => ?_))
        exact Bool.false_ne_true (e.symm.trans (List.any_eq_true.mpr ⟨m, hm, h2⟩))
      have hb0 : b2i false = 0 := rfl
      rw [ha, if_neg h]
      simp [z_X1_leastCommonSign_10, hb0, hu]
/-- the inner loop of bar: one letter's signs -/
def gb (g : Nat → Bool) (c : Nat → Nat) (i s : Nat) : Bool := g s && (decide (i ≤ s) || decide (0 < c s))
theorem gb_and0 {g : Nat → Bool} {c : Nat → Nat} {i : Nat} (hi : i < 8) (h0 : c i = 0) : ms (gb g c i) &&& (((1 : Int32) <<< (nI i &&& 31)) ^^^ (-1)) = ms (gb g c (i + 1)) := by
  rw [ms_not hi]
  refine ms_ext (fun s _ => ?_)
  unfold gb
  by_cases hs : s = i
  · subst hs; simp [h0]
  · have : (decide (i ≤ s)) = decide (i + 1 ≤ s) := by
      by_cases h : i ≤ s
      · rw [decide_eq_true h, decide_eq_true (by omega)]
      · rw [decide_eq_false h, decide_eq_false (by omega)]
    simp [hs, this]
theorem gb_and1 {g : Nat → Bool} {c : Nat → Nat} {i : Nat} (h0 : 0 < c i) : ms (gb g c i) &&& 255 = ms (gb g c (i + 1)) := by
  rw [ms_255, ms_and]
  refine ms_ext (fun s _ => ?_)
  unfold gb
  by_cases hs : s = i
  · subst hs; simp [h0]
  · have : (decide (i ≤ s)) = decide (i + 1 ≤ s) := by
      by_cases h : i ≤ s
      · rw [decide_eq_true h, decide_eq_true (by omega)]
      · rw [decide_eq_false h, decide_eq_false (by omega)]
    simp [this]
theorem gb_0 {g : Nat → Bool} {c : Nat → Nat} : ms g = ms (gb g c 0) := ms_ext (fun s _ => by simp [gb])
theorem gb_8 {g : Nat → Bool} {c : Nat → Nat} : ms (gb g c 8) = ms (fun s => g s && decide (0 < c s)) := ms_ext (fun s hs => by simp [gb, show ¬ 8 ≤ s by omega])
theorem m_barS {M : MM} {sp dr k i n : Nat} {P a2 a3 a5 a x : Int32} (L : LAY M sp dr) (hi : i < 8) (hn : n ≤ 15) (hc : f_X7_countOf M P (nI i) = some (nI n)) (hk : k < 820) (t : gI M 89 k = P) (h0 : n = 0 → a &&& (((1 : Int32) <<< (nI i &&& 31)) ^^^ (-1)) = x) (h1 : 0 < n → a &&& 255 = x) : z_X7_bar_71 M 81 a2 a3 a5 (nI k) 1 a (nI i) = some (.inr (x, nI (i + 1))) := by
  have hN := L.1
  have c1 : ¬ (8 : Int32) ≤ nI i := fun e => by have := (nI_leI (a := 8) (by omega) (by omega)).mp e; omega
  have r9 : fR M 81 7 9 = some 89 := by rw [fR_e hN (by decide) rfl]; exact ly_81_9 L
  have ak := aI_e (p := 89) (i := k) hN (by decide) rfl (by rw [lnv_89]; omega)
  rw [t] at ak
  have hz : (nI n ≤ 0) = (n ≤ 0) := n_le_l (k := 0) (by omega) (by decide)
  have e1 : nI i + 1 = nI (i + 1) := nI_1 i
  unfold z_X7_bar_71
  rw [if_neg c1, if_neg (by decide), r9, Option.bind_some, ak, Option.bind_some, hc, Option.bind_some]
  unfold j_X7_bar_112
  rw [e1]
  by_cases h : n = 0
  · rw [if_pos (by rw [hz]; omega), h0 h]
  · rw [if_neg (by rw [hz]; omega), h1 (by omega)]
theorem m_barE {M : MM} {a2 a3 a5 a kk : Int32} : z_X7_bar_71 M 81 a2 a3 a5 kk 1 a (nI 8) = some (.inl (.inr (a, a5, kk + 1))) := by
  unfold z_X7_bar_71
  rw [if_pos (by decide)]
  rfl
theorem m_bar1 {M : MM} {sp dr k : Nat} {c : Nat → Nat} {P a2 a3 a5 : Int32} {g : Nat → Bool} (L : LAY M sp dr) (hcs : ∀ i, i < 8 → c i ≤ 15 ∧ f_X7_countOf M P (nI i) = some (nI (c i))) (hk : k < 820) (t : gI M 89 k = P) : lp (fun t => z_X7_bar_71 M 81 a2 a3 a5 (nI k) 1 t.1 t.2) FU (ms g, 0) = some (.inr (ms (fun s => g s && decide (0 < c s)), a5, nI (k + 1))) := by
  rw [gb_0 (g := g) (c := c), ← gb_8, ← nI_1 k]
  exact lp_run (st := fun i => (ms (gb g c i), nI i)) 8 (fun i hi => m_barS L hi (hcs i hi).1 (hcs i hi).2 hk t (gb_and0 hi) gb_and1) m_barE FU (show 8 < 4000 by omega)
theorem eq_bar {M : MM} {T : TG} {sp dr : Nat} (I : Inv M T sp dr) (x y : Int32) : ∃ r, f_X6_bar M 0 x y = some r ∧ f_X7_bar M 81 x y = some r := by
  obtain ⟨L, hT, hC, hM, hS, hLs, hX, hP, hI0, hI1, hJ⟩ := id I
  have hN := L.1
  obtain ⟨n, hn, x1, x2, x3⟩ := hX
  obtain ⟨k, hk, p1, p2, p3⟩ := hP
  have hst : sp = 23 ∨ sp = 52 := by rcases L.2.1 with ⟨h, -⟩ | ⟨h, -⟩ <;> omega
  obtain ⟨ks0, ks1, ks2, ks3, ks4, ks5, ks6, ks7, ks8⟩ := tkf hst
  obtain ⟨lt0, lt1, lt2, lt3⟩ := ly_t L sp hst

  rcases let_cases T x with h | ⟨j, hj, rfl⟩
  · exact ⟨-1, by simp [f_X6_bar, fI_e, aI_l, aZ_l, aR_l, waI_l, waZ_l, fJ_e, fR_e, wfI_e, wfZ_e, wfJ_e, wfR_e, aI_e, aZ_e, aJ_e, aR_e, waI_e, waZ_e, waJ_e, n_sI, n_sJ, n_sR, gI_sI, gI_sJ, gI_sR, gJ_sI, gJ_sJ, gJ_sR, gR_sI, gR_sJ, gR_sR, Option.bind_some, Option.map_some, kdv_0, kdv_1, kdv_2, kdv_3, kdv_4, kdv_5, kdv_6, kdv_7, kdv_8, kdv_9, kdv_10, kdv_11, kdv_12, kdv_13, kdv_14, kdv_15, kdv_16, kdv_17, kdv_18, kdv_19, kdv_20, kdv_21, kdv_22, kdv_23, kdv_24, kdv_25, kdv_26, kdv_27, kdv_28, kdv_29, kdv_30, kdv_31, kdv_32, kdv_33, kdv_34, kdv_35, kdv_36, kdv_37, kdv_38, kdv_39, kdv_40, kdv_41, kdv_42, kdv_43, kdv_44, kdv_45, kdv_46, kdv_47, kdv_48, kdv_49, kdv_50, kdv_51, kdv_52, kdv_53, kdv_54, kdv_55, kdv_56, kdv_57, kdv_58, kdv_59, kdv_60, kdv_61, kdv_62, kdv_63, kdv_64, kdv_65, kdv_66, kdv_67, kdv_68, kdv_69, kdv_70, kdv_71, kdv_72, kdv_73, kdv_74, kdv_75, kdv_76, kdv_77, kdv_78, kdv_79, kdv_80, kdv_81, kdv_82, kdv_83, kdv_84, kdv_85, kdv_86, kdv_87, kdv_88, kdv_89, kdv_90, kdv_91, kdv_92, lnv_2, lnv_4, lnv_5, lnv_6, lnv_7, lnv_8, lnv_9, lnv_10, lnv_11, lnv_12, lnv_13, lnv_14, lnv_15, lnv_17, lnv_18, lnv_20, lnv_22, lnv_24, lnv_25, lnv_53, lnv_54, lnv_82, lnv_83, lnv_84, lnv_85, lnv_86, lnv_87, lnv_88, lnv_89, lnv_90, lnv_91, lnv_92, hN, (ly_0_0 L), (ly_0_1 L), (ly_0_2 L), (ly_0_3 L), (ly_0_4 L), (ly_0_5 L), (ly_1_0 L), (ly_3_0 L), (ly_3_1 L), (ly_3_2 L), (ly_3_3 L), (ly_3_4 L), (ly_3_5 L), (ly_3_6 L), (ly_3_7 L), (ly_3_8 L), (ly_3_10 L), (ly_3_11 L), (ly_3_12 L), (ly_16_0 L), (ly_18_0 L), (ly_18_1 L), (ly_19_0 L), (ly_21_0 L), (ly_81_1 L), (ly_81_3 L), (ly_81_4 L), (ly_81_5 L), (ly_81_6 L), (ly_81_7 L), (ly_81_8 L), (ly_81_9 L), (ly_81_10 L), (ly_81_11 L), (ly_81_17 L), c_can_no L hS h], by simp [f_X7_bar, hN, kdv_81, m_place_no L hLs h]⟩
  · have hlen := Lt_819 (T := T)
    obtain ⟨hl, hLj⟩ := Lt_at hj
    have hc := c_can L hS hl
    rw [hLj] at hc
    have hp := m_place_at L hLs hj
    have hnm : ¬ nI j = -9 := nI_nm (by omega) (by decide)
    rcases c_slack (M := M) (x := y) with ⟨s1, s2⟩ | ⟨s, hs, rfl, s1, s2⟩
    · exact ⟨-1, by simp [f_X6_bar, fI_e, aI_l, aZ_l, aR_l, waI_l, waZ_l, fJ_e, fR_e, wfI_e, wfZ_e, wfJ_e, wfR_e, aI_e, aZ_e, aJ_e, aR_e, waI_e, waZ_e, waJ_e, n_sI, n_sJ, n_sR, gI_sI, gI_sJ, gI_sR, gJ_sI, gJ_sJ, gJ_sR, gR_sI, gR_sJ, gR_sR, Option.bind_some, Option.map_some, kdv_0, kdv_1, kdv_2, kdv_3, kdv_4, kdv_5, kdv_6, kdv_7, kdv_8, kdv_9, kdv_10, kdv_11, kdv_12, kdv_13, kdv_14, kdv_15, kdv_16, kdv_17, kdv_18, kdv_19, kdv_20, kdv_21, kdv_22, kdv_23, kdv_24, kdv_25, kdv_26, kdv_27, kdv_28, kdv_29, kdv_30, kdv_31, kdv_32, kdv_33, kdv_34, kdv_35, kdv_36, kdv_37, kdv_38, kdv_39, kdv_40, kdv_41, kdv_42, kdv_43, kdv_44, kdv_45, kdv_46, kdv_47, kdv_48, kdv_49, kdv_50, kdv_51, kdv_52, kdv_53, kdv_54, kdv_55, kdv_56, kdv_57, kdv_58, kdv_59, kdv_60, kdv_61, kdv_62, kdv_63, kdv_64, kdv_65, kdv_66, kdv_67, kdv_68, kdv_69, kdv_70, kdv_71, kdv_72, kdv_73, kdv_74, kdv_75, kdv_76, kdv_77, kdv_78, kdv_79, kdv_80, kdv_81, kdv_82, kdv_83, kdv_84, kdv_85, kdv_86, kdv_87, kdv_88, kdv_89, kdv_90, kdv_91, kdv_92, lnv_2, lnv_4, lnv_5, lnv_6, lnv_7, lnv_8, lnv_9, lnv_10, lnv_11, lnv_12, lnv_13, lnv_14, lnv_15, lnv_17, lnv_18, lnv_20, lnv_22, lnv_24, lnv_25, lnv_53, lnv_54, lnv_82, lnv_83, lnv_84, lnv_85, lnv_86, lnv_87, lnv_88, lnv_89, lnv_90, lnv_91, lnv_92, hN, (ly_0_0 L), (ly_0_1 L), (ly_0_2 L), (ly_0_3 L), (ly_0_4 L), (ly_0_5 L), (ly_1_0 L), (ly_3_0 L), (ly_3_1 L), (ly_3_2 L), (ly_3_3 L), (ly_3_4 L), (ly_3_5 L), (ly_3_6 L), (ly_3_7 L), (ly_3_8 L), (ly_3_10 L), (ly_3_11 L), (ly_3_12 L), (ly_16_0 L), (ly_18_0 L), (ly_18_1 L), (ly_19_0 L), (ly_21_0 L), (ly_81_1 L), (ly_81_3 L), (ly_81_4 L), (ly_81_5 L), (ly_81_6 L), (ly_81_7 L), (ly_81_8 L), (ly_81_9 L), (ly_81_10 L), (ly_81_11 L), (ly_81_17 L), hc, b2i, s1], by simp [f_X7_bar, hN, kdv_81, hp, hnm, s2]⟩
    · have hcc := c_least L hT hS hl hLj (show s < 1000 by omega)
      generalize hR : (if (Lt T).find? (near T (Lt T)[j] s) = none then (-5 : Int32) else up (cmS T (near T (Lt T)[j] s) (Lt T)) 8 0) = R at hcc
      refine ⟨R, by simp [f_X6_bar, fI_e, aI_l, aZ_l, aR_l, waI_l, waZ_l, fJ_e, fR_e, wfI_e, wfZ_e, wfJ_e, wfR_e, aI_e, aZ_e, aJ_e, aR_e, waI_e, waZ_e, waJ_e, n_sI, n_sJ, n_sR, gI_sI, gI_sJ, gI_sR, gJ_sI, gJ_sJ, gJ_sR, gR_sI, gR_sJ, gR_sR, Option.bind_some, Option.map_some, kdv_0, kdv_1, kdv_2, kdv_3, kdv_4, kdv_5, kdv_6, kdv_7, kdv_8, kdv_9, kdv_10, kdv_11, kdv_12, kdv_13, kdv_14, kdv_15, kdv_16, kdv_17, kdv_18, kdv_19, kdv_20, kdv_21, kdv_22, kdv_23, kdv_24, kdv_25, kdv_26, kdv_27, kdv_28, kdv_29, kdv_30, kdv_31, kdv_32, kdv_33, kdv_34, kdv_35, kdv_36, kdv_37, kdv_38, kdv_39, kdv_40, kdv_41, kdv_42, kdv_43, kdv_44, kdv_45, kdv_46, kdv_47, kdv_48, kdv_49, kdv_50, kdv_51, kdv_52, kdv_53, kdv_54, kdv_55, kdv_56, kdv_57, kdv_58, kdv_59, kdv_60, kdv_61, kdv_62, kdv_63, kdv_64, kdv_65, kdv_66, kdv_67, kdv_68, kdv_69, kdv_70, kdv_71, kdv_72, kdv_73, kdv_74, kdv_75, kdv_76, kdv_77, kdv_78, kdv_79, kdv_80, kdv_81, kdv_82, kdv_83, kdv_84, kdv_85, kdv_86, kdv_87, kdv_88, kdv_89, kdv_90, kdv_91, kdv_92, lnv_2, lnv_4, lnv_5, lnv_6, lnv_7, lnv_8, lnv_9, lnv_10, lnv_11, lnv_12, lnv_13, lnv_14, lnv_15, lnv_17, lnv_18, lnv_20, lnv_22, lnv_24, lnv_25, lnv_53, lnv_54, lnv_82, lnv_83, lnv_84, lnv_85, lnv_86, lnv_87, lnv_88, lnv_89, lnv_90, lnv_91, lnv_92, hN, (ly_0_0 L), (ly_0_1 L), (ly_0_2 L), (ly_0_3 L), (ly_0_4 L), (ly_0_5 L), (ly_1_0 L), (ly_3_0 L), (ly_3_1 L), (ly_3_2 L), (ly_3_3 L), (ly_3_4 L), (ly_3_5 L), (ly_3_6 L), (ly_3_7 L), (ly_3_8 L), (ly_3_10 L), (ly_3_11 L), (ly_3_12 L), (ly_16_0 L), (ly_18_0 L), (ly_18_1 L), (ly_19_0 L), (ly_21_0 L), (ly_81_1 L), (ly_81_3 L), (ly_81_4 L), (ly_81_5 L), (ly_81_6 L), (ly_81_7 L), (ly_81_8 L), (ly_81_9 L), (ly_81_10 L), (ly_81_11 L), (ly_81_17 L), hc, b2i, s1, hcc], ?_⟩
      rw [← hR]
      simp only [f_X7_bar, hN, kdv_81]
      rw [if_pos (by decide)]
      simp only [hp, Option.bind_some, if_neg hnm, s2]
      rw [if_neg (by decide), ms_255]
      refine lp_ref (T := T) (mk := fun A c => (ms (cmS T (near T (Lt T)[j] s) A), cntI (near T (Lt T)[j] s) A, c)) (fun k hk => ?_) ?_
      · have c1 : ¬ nI (Lt T).length ≤ nI k := fun e => by have := (nI_leI (by omega) (by omega)).mp e; omega
        have e1 : nI k + 1 = nI (k + 1) := nI_1 k
        have ha := m_answer L hT hLs hj hk (show s < 1000 by omega)
        have t := (hLs.2 k hk).2.1
        have hrk := isL_row (Lt_at hk).2
        rw [cntI_app, cntS, show ms (cmS T (near T (Lt T)[j] s) ((Lt T).take k ++ [(Lt T)[k]])) = ms (fun x => cmS T (near T (Lt T)[j] s) ((Lt T).take k) x && (!(near T (Lt T)[j] s (Lt T)[k]) || decide (0 < cn T (Lt T)[k] x))) from ms_ext (fun x _ => cmS_app)]
        generalize near T (Lt T)[j] s (Lt T)[k] = nv at ha
        generalize cmS T (near T (Lt T)[j] s) ((Lt T).take k) = g
        generalize cntI (near T (Lt T)[j] s) ((Lt T).take k) = n
        have hb0 : b2i false = 0 := rfl
        have hb1 : b2i true = 1 := rfl
        cases nv
        · rw [hb0] at ha
          simp [z_X7_bar_34, fI_e, aI_l, aZ_l, aR_l, waI_l, waZ_l, fJ_e, fR_e, wfI_e, wfZ_e, wfJ_e, wfR_e, aI_e, aZ_e, aJ_e, aR_e, waI_e, waZ_e, waJ_e, n_sI, n_sJ, n_sR, gI_sI, gI_sJ, gI_sR, gJ_sI, gJ_sJ, gJ_sR, gR_sI, gR_sJ, gR_sR, Option.bind_some, Option.map_some, kdv_0, kdv_1, kdv_2, kdv_3, kdv_4, kdv_5, kdv_6, kdv_7, kdv_8, kdv_9, kdv_10, kdv_11, kdv_12, kdv_13, kdv_14, kdv_15, kdv_16, kdv_17, kdv_18, kdv_19, kdv_20, kdv_21, kdv_22, kdv_23, kdv_24, kdv_25, kdv_26, kdv_27, kdv_28, kdv_29, kdv_30, kdv_31, kdv_32, kdv_33, kdv_34, kdv_35, kdv_36, kdv_37, kdv_38, kdv_39, kdv_40, kdv_41, kdv_42, kdv_43, kdv_44, kdv_45, kdv_46, kdv_47, kdv_48, kdv_49, kdv_50, kdv_51, kdv_52, kdv_53, kdv_54, kdv_55, kdv_56, kdv_57, kdv_58, kdv_59, kdv_60, kdv_61, kdv_62, kdv_63, kdv_64, kdv_65, kdv_66, kdv_67, kdv_68, kdv_69, kdv_70, kdv_71, kdv_72, kdv_73, kdv_74, kdv_75, kdv_76, kdv_77, kdv_78, kdv_79, kdv_80, kdv_81, kdv_82, kdv_83, kdv_84, kdv_85, kdv_86, kdv_87, kdv_88, kdv_89, kdv_90, kdv_91, kdv_92, lnv_2, lnv_4, lnv_5, lnv_6, lnv_7, lnv_8, lnv_9, lnv_10, lnv_11, lnv_12, lnv_13, lnv_14, lnv_15, lnv_17, lnv_18, lnv_20, lnv_22, lnv_24, lnv_25, lnv_53, lnv_54, lnv_82, lnv_83, lnv_84, lnv_85, lnv_86, lnv_87, lnv_88, lnv_89, lnv_90, lnv_91, lnv_92, hN, hLs.1, c1, ha, j_X7_bar_65]
          simp [FU, lp, z_X7_bar_71, j_X7_bar_121, e1]
        · rw [hb1] at ha
          have hb := m_bar1 (a2 := nI s) (a3 := nI j) (a5 := n + 1) (g := g) L (fun i hi => ⟨cn_le hT hrk, by rw [m_countOf hi, (pk4_get (f := cn T (Lt T)[k]) (fun s _ => cn_le hT hrk)).2 i hi]⟩) (show k < 820 by omega) t
          simp [z_X7_bar_34, fI_e, aI_l, aZ_l, aR_l, waI_l, waZ_l, fJ_e, fR_e, wfI_e, wfZ_e, wfJ_e, wfR_e, aI_e, aZ_e, aJ_e, aR_e, waI_e, waZ_e, waJ_e, n_sI, n_sJ, n_sR, gI_sI, gI_sJ, gI_sR, gJ_sI, gJ_sJ, gJ_sR, gR_sI, gR_sJ, gR_sR, Option.bind_some, Option.map_some, kdv_0, kdv_1, kdv_2, kdv_3, kdv_4, kdv_5, kdv_6, kdv_7, kdv_8, kdv_9, kdv_10, kdv_11, kdv_12, kdv_13, kdv_14, kdv_15, kdv_16, kdv_17, kdv_18, kdv_19, kdv_20, kdv_21, kdv_22, kdv_23, kdv_24, kdv_25, kdv_26, kdv_27, kdv_28, kdv_29, kdv_30, kdv_31, kdv_32, kdv_33, kdv_34, kdv_35, kdv_36, kdv_37, kdv_38, kdv_39, kdv_40, kdv_41, kdv_42, kdv_43, kdv_44, kdv_45, kdv_46, kdv_47, kdv_48, kdv_49, kdv_50, kdv_51, kdv_52, kdv_53, kdv_54, kdv_55, kdv_56, kdv_57, kdv_58, kdv_59, kdv_60, kdv_61, kdv_62, kdv_63, kdv_64, kdv_65, kdv_66, kdv_67, kdv_68, kdv_69, kdv_70, kdv_71, kdv_72, kdv_73, kdv_74, kdv_75, kdv_76, kdv_77, kdv_78, kdv_79, kdv_80, kdv_81, kdv_82, kdv_83, kdv_84, kdv_85, kdv_86, kdv_87, kdv_88, kdv_89, kdv_90, kdv_91, kdv_92, lnv_2, lnv_4, lnv_5, lnv_6, lnv_7, lnv_8, lnv_9, lnv_10, lnv_11, lnv_12, lnv_13, lnv_14, lnv_15, lnv_17, lnv_18, lnv_20, lnv_22, lnv_24, lnv_25, lnv_53, lnv_54, lnv_82, lnv_83, lnv_84, lnv_85, lnv_86, lnv_87, lnv_88, lnv_89, lnv_90, lnv_91, lnv_92, hN, hLs.1, c1, ha, j_X7_bar_65, hb]
      · have c1 : nI (Lt T).length ≤ nI (Lt T).length := Int32.le_refl _
        have hz := cntI_0 (p := near T (Lt T)[j] s) (A := Lt T) (by omega)
        simp only [z_X7_bar_34, fI_e hN (show 81 < 93 by decide) (show (kd 81 == 7) = true from rfl), Option.bind_some, hLs.1, if_pos c1, m_up, hz]
        rfl
