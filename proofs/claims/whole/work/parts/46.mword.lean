/-! PURE: a word, reference side -/
theorem L_mul (a b : Nat) : lN a * lN b = lN (a * b) := (Int64.ofNat_mul a b).symm
theorem L_add (a b : Nat) : lN a + lN b = lN (a + b) := (Int64.ofNat_add a b).symm
def pkb (B : Nat → Nat) (s : Nat) : Nat → Nat
  | 0 => 0
  | i + 1 => 256 * pkb B s i + B (s + i)
theorem nm0 {B : Nat → Nat} {s e : Nat} : isNm B s e 0 = true ↔ e = s + 4 ∧ B s = 119 ∧ B (s + 1) = 111 ∧ B (s + 2) = 114 ∧ B (s + 3) = 100 := by
  unfold isNm
  rw [Bool.and_eq_true_iff, decide_eq_true_iff, List.all_eq_true]
  constructor
  · rintro ⟨h1, h2⟩
    exact ⟨h1, of_decide_eq_true (h2 0 (by decide)), of_decide_eq_true (h2 1 (by decide)), of_decide_eq_true (h2 2 (by decide)), of_decide_eq_true (h2 3 (by decide))⟩
  · rintro ⟨h1, a, b, c, d⟩
    refine ⟨h1, fun i hi => decide_eq_true ?_⟩
    have : i < 4 := List.mem_range.mp hi
    rcases (show i = 0 ∨ i = 1 ∨ i = 2 ∨ i = 3 by omega) with rfl | rfl | rfl | rfl
    · exact a
    · exact b
    · exact c
    · exact d
theorem nm1 {B : Nat → Nat} {s e : Nat} : isNm B s e 1 = true ↔ e = s + 5 ∧ B s = 115 ∧ B (s + 1) = 104 ∧ B (s + 2) = 97 ∧ B (s + 3) = 112 ∧ B (s + 4) = 101 := by
  unfold isNm
  rw [Bool.and_eq_true_iff, decide_eq_true_iff, List.all_eq_true]
  constructor
  · rintro ⟨h1, h2⟩
    exact ⟨h1, of_decide_eq_true (h2 0 (by decide)), of_decide_eq_true (h2 1 (by decide)), of_decide_eq_true (h2 2 (by decide)), of_decide_eq_true (h2 3 (by decide)), of_decide_eq_true (h2 4 (by decide))⟩
  · rintro ⟨h1, a, b, c, d, f⟩
    refine ⟨h1, fun i hi => decide_eq_true ?_⟩
    have : i < 5 := List.mem_range.mp hi
    rcases (show i = 0 ∨ i = 1 ∨ i = 2 ∨ i = 3 ∨ i = 4 by omega) with rfl | rfl | rfl | rfl | rfl
    · exact a
    · exact b
    · exact c
    · exact d
    · exact f
theorem j53 {M : MM} {v : Nat} (h : v < 2 ^ 63) : j_X7_verb_53 M (lN v) = some (if v = 2003792484 then 0 else if v = 495672455269 then 1 else -9) := by
  have hin : ∀ c, c < 2 ^ 63 → (lN v = lN c ↔ v = c) := by
    intro c hc
    constructor
    · intro q
      have q2 := congrArg (fun x : Int64 => x.toBitVec.toNat) q
      simp only [wb_tn (show v < 2 ^ 64 by omega), wb_tn (show c < 2 ^ 64 by omega)] at q2
      exact q2
    · intro q
      rw [q]
  have h1 : lN v = (2003792484 : Int64) ↔ v = 2003792484 := hin 2003792484 (by decide)
  have h2 : lN v = (495672455269 : Int64) ↔ v = 495672455269 := hin 495672455269 (by decide)
  unfold j_X7_verb_53
  by_cases q1 : v = 2003792484
  · rw [if_pos q1, if_pos (lcmp_0.mpr (h1.mpr q1))]
  · rw [if_neg q1, if_neg (fun e => q1 (h1.mp (lcmp_0.mp e)))]
    by_cases q2 : v = 495672455269
    · rw [if_pos q2, if_pos (lcmp_0.mpr (h2.mpr q2))]
    · rw [if_neg q2, if_neg (fun e => q2 (h2.mp (lcmp_0.mp e)))]
def vrb (B : Nat → Nat) (s e k : Nat) : Int32 := if k = 1 ∧ isNm B s e 0 = true then 0 else if k = 1 ∧ isNm B s e 1 = true then 1 else -9
theorem dig2 {x b y c : Nat} (hb : b < 256) (hc : c < 256) : (256 * x + b = 256 * y + c) ↔ (x = y ∧ b = c) := by omega
theorem dig4 {a b c d : Nat} (ha : a < 256) (hb : b < 256) (hc : c < 256) (hd : d < 256) : 256 * (256 * (256 * (256 * 0 + a) + b) + c) + d = 2003792484 ↔ a = 119 ∧ b = 111 ∧ c = 114 ∧ d = 100 := by
  rw [show (2003792484 : Nat) = 256 * (256 * (256 * (256 * 0 + 119) + 111) + 114) + 100 from rfl, dig2 hd (by decide), dig2 hc (by decide), dig2 hb (by decide), dig2 ha (by decide)]
  omega
theorem dig5 {a b c d f : Nat} (ha : a < 256) (hb : b < 256) (hc : c < 256) (hd : d < 256) (hf : f < 256) : 256 * (256 * (256 * (256 * (256 * 0 + a) + b) + c) + d) + f = 495672455269 ↔ a = 115 ∧ b = 104 ∧ c = 97 ∧ d = 112 ∧ f = 101 := by
  rw [show (495672455269 : Nat) = 256 * (256 * (256 * (256 * (256 * 0 + 115) + 104) + 97) + 112) + 101 from rfl, dig2 hf (by decide), dig2 hd (by decide), dig2 hc (by decide), dig2 hb (by decide), dig2 ha (by decide)]
  omega
theorem pkb_n {B : Nat → Nat} {s e : Nat} (hse : s < e) (h5 : e ≤ s + 5) (hB : ∀ i, s ≤ i → i < e → 97 ≤ B i ∧ B i ≤ 122) : (pkb B s (e - s) = 2003792484 ↔ isNm B s e 0 = true) ∧ (pkb B s (e - s) = 495672455269 ↔ isNm B s e 1 = true) ∧ pkb B s (e - s) < 2 ^ 63 := by
  rw [nm0, nm1]
  have b0 := hB s (by omega) (by omega)
  rcases (show e = s + 1 ∨ e = s + 2 ∨ e = s + 3 ∨ e = s + 4 ∨ e = s + 5 by omega) with rfl | rfl | rfl | rfl | rfl
  · rw [show s + 1 - s = 1 by omega]
    simp only [pkb, Nat.add_zero]
    omega
  · have b1 := hB (s + 1) (by omega) (by omega)
    rw [show s + 2 - s = 2 by omega]
    simp only [pkb, Nat.add_zero]
    omega
  · have b1 := hB (s + 1) (by omega) (by omega)
    have b2 := hB (s + 2) (by omega) (by omega)
    rw [show s + 3 - s = 3 by omega]
    simp only [pkb, Nat.add_zero]
    omega
  · have b1 := hB (s + 1) (by omega) (by omega)
    have b2 := hB (s + 2) (by omega) (by omega)
    have b3 := hB (s + 3) (by omega) (by omega)
    rw [show s + 4 - s = 4 by omega]
    simp only [pkb, Nat.add_zero]
    have q := dig4 (a := B s) (b := B (s + 1)) (c := B (s + 2)) (d := B (s + 3)) (by omega) (by omega) (by omega) (by omega)
    exact ⟨by rw [q]; simp, by omega, by omega⟩
  · have b1 := hB (s + 1) (by omega) (by omega)
    have b2 := hB (s + 2) (by omega) (by omega)
    have b3 := hB (s + 3) (by omega) (by omega)
    have b4 := hB (s + 4) (by omega) (by omega)
    rw [show s + 5 - s = 5 by omega]
    simp only [pkb, Nat.add_zero]
    have q := dig5 (a := B s) (b := B (s + 1)) (c := B (s + 2)) (d := B (s + 3)) (f := B (s + 4)) (by omega) (by omega) (by omega) (by omega) (by omega)
    exact ⟨by omega, by rw [q]; simp, by omega⟩
theorem tok_k {B : Nat → Nat} {n p s e k : Nat} (t : TOKN B n p s e k) : k < 5 := by
  rcases t.2.2.2 with ⟨-, -, h⟩ | ⟨-, -, h, -⟩
  · omega
  · have := kof_r (B s); omega
theorem tok_1 {B : Nat → Nat} {n p s e k : Nat} (t : TOKN B n p s e k) (hk : k = 1) : s < e ∧ e ≤ n ∧ ∀ i, s ≤ i → i < e → 97 ≤ B i ∧ B i ≤ 122 := by
  have hl := tok_lt t (by omega)
  refine ⟨hl.2.1, (tok_e t).2, fun i a b => ?_⟩
  rcases t.2.2.2 with ⟨-, -, h⟩ | ⟨_, _, _, _, _, h6, _⟩
  · omega
  · have := (h6 (Or.inl hk)).1 i a b
    rw [hk] at this
    exact kof1.mp this
theorem m_verb {sp dr n p s e k : Nat} {B : Nat → Nat} {M : MM} (L : LAY M sp dr) (X : RX M B n) (hn : n ≤ 200) (t : TOKN B n p s e k) (h : TKN M s e k) : f_X7_verb M 81 = some (vrb B s e k) := by
  obtain ⟨h13, h14, h15, h16⟩ := h
  have hse := tok_e t
  have hk5 := tok_k t
  have c1 : (nI k = 1) = (k = 1) := nn_eq (b := 1) (by omega) (by decide)
  have c6 : ((6 : Int32) ≤ nI (e - s)) = (6 ≤ e - s) := nn_le (a := 6) (by decide) (by omega)
  unfold f_X7_verb
  rw [if_pos (r81 L)]
  by_cases hgood : k = 1 ∧ e - s ≤ 5
  · obtain ⟨q1, q2, q3⟩ := tok_1 t hgood.1
    obtain ⟨p1, p2, p3⟩ := pkb_n (B := B) q1 (by omega) q3
    have hv : vrb B s e k = if pkb B s (e - s) = 2003792484 then 0 else if pkb B s (e - s) = 495672455269 then 1 else -9 := by
      unfold vrb
      by_cases a : isNm B s e 0 = true
      · rw [if_pos ⟨hgood.1, a⟩, if_pos (p1.mpr a)]
      · rw [if_neg (fun q => a q.2), if_neg (fun q => a (p1.mp q))]
        by_cases b : isNm B s e 1 = true
        · rw [if_pos ⟨hgood.1, b⟩, if_pos (p2.mpr b)]
        · rw [if_neg (fun q => b q.2), if_neg (fun q => b (p2.mp q))]
    rw [hv, ← j53 (M := M) p3]
    have key : ∀ d fuel i, i + d = e - s → d < fuel → lp (fun t => z_X7_verb_4 M 81 t.1 t.2) fuel (lN (pkb B s i), nI i) = j_X7_verb_53 M (lN (pkb B s (e - s))) := by
      intro d
      induction d with
      | zero =>
        intro fuel i hi hf
        obtain ⟨fuel, rfl⟩ : ∃ m, fuel = m + 1 := ⟨fuel - 1, by omega⟩
        obtain rfl : i = e - s := by omega
        refine lp_m ?_
        unfold z_X7_verb_4
        rw [mf L, Option.bind_some, h16, if_pos (Int32.le_refl _)]
      | succ d ih =>
        intro fuel i hi hf
        obtain ⟨fuel, rfl⟩ : ∃ m, fuel = m + 1 := ⟨fuel - 1, by omega⟩
        rw [lp_e (t := (lN (pkb B s (i + 1)), nI (i + 1)))]
        · exact ih fuel (i + 1) (by omega) (by omega)
        · have hb := q3 (s + i) (by omega) (by omega)
          have e1 : ((256 : Int64) * lN (pkb B s i)) + (nI (B (s + i))).toInt64 = lN (pkb B s (i + 1)) := by
            rw [nI_l (by omega), show (256 : Int64) = lN 256 from rfl, L_mul, L_add]
            rfl
          unfold z_X7_verb_4
          rw [mf L, Option.bind_some, h16, if_neg (fun e => by have := (nI_leI (by omega) (by omega)).mp e; omega), Option.bind_some, if_neg (by rw [c6]; omega), mf L, Option.bind_some, h14, if_pos (by rw [c1]; exact hgood.1), mf L, Option.bind_some, h15, nI_add, m_byte L X hn (by omega), Option.bind_some, byt, if_pos (by omega), e1, nI_1]
    exact key (e - s) FU 0 (by omega) (show e - s < 4000 by omega)
  · have hv : vrb B s e k = -9 := by
      unfold vrb
      rw [if_neg (fun q => by have := (nm0.mp q.2).1; omega), if_neg (fun q => by have := (nm1.mp q.2).1; omega)]
    rw [hv, ← show j_X7_verb_53 M (lN 0) = some (-9) from j53 (by decide)]
    refine lp_m (n := 3999) ?_
    show z_X7_verb_4 M 81 0 0 = _
    unfold z_X7_verb_4
    rw [mf L, Option.bind_some, h16]
    by_cases h0 : e - s = 0
    · rw [if_pos (by rw [h0]; exact Int32.le_refl _)]
      rfl
    · rw [if_neg (fun q => h0 (by have := (nI_leI (b := 0) (by omega) (by decide)).mp q; omega)), Option.bind_some]
      by_cases h6 : 6 ≤ e - s
      · rw [if_pos (by rw [c6]; exact h6)]
        rfl
      · rw [if_neg (by rw [c6]; exact h6), mf L, Option.bind_some, h14, if_neg (by rw [c1]; omega)]
        rfl
theorem sgn_f {B : Nat → Nat} {s i : Nat} (h : sgn B s i = false) (hi : s ≤ i) : ∀ d, sgn B s (i + d) = false
  | 0 => h
  | d + 1 => by
    rw [← Nat.add_assoc, sgn_s (by omega), sgn_f h hi d]
    rfl
def PS (w p j : Nat) : Prop := p = 84 ∧ (j = 30 + w ∨ (39 + 5 * w ≤ j ∧ j < 44 + 5 * w))
theorem r4 {M : MM} {sp dr : Nat} (L : LAY M sp dr) : fR M 81 7 4 = some 84 := by
  rw [fR_e (p := 81) (c := 7) (k := 4) L.1 (by decide) rfl]
  exact ly_81_4 L
theorem w84 {M : MM} {sp dr j : Nat} {v : Int32} (L : LAY M sp dr) (hj : j < 110) : waI M 84 (nI j) v = some (sI M 84 j v) := waI_e L.1 (by decide) rfl (by rw [lnv_84]; omega)
theorem a84 {M : MM} {sp dr j : Nat} (L : LAY M sp dr) (hj : j < 110) : aI M 84 (nI j) = some (gI M 84 j) := aI_e L.1 (by decide) rfl (by rw [lnv_84]; omega)
theorem TKN.c84 {M : MM} {s e k j : Nat} {v : Int32} (h : TKN M s e k) : TKN (sI M 84 j v) s e k := ⟨by rw [gp_cell (by decide)]; exact h.1, by rw [gp_cell (by decide)]; exact h.2.1, by rw [gp_cell (by decide)]; exact h.2.2.1, by rw [gp_cell (by decide)]; exact h.2.2.2⟩
theorem m_94 {M : MM} {sp dr w s e : Nat} {b : Bool} (L : LAY M sp dr) (hw : w < 9) (h16 : gI M 81 16 = nI (e - s)) : j_X7_readsSigns_94 M 81 (nI w) (b2i b) = some (b2i b, sI M 84 (30 + w) (if b = true then nI (e - s) else 0)) := by
  unfold j_X7_readsSigns_94
  rw [r4 L, Option.bind_some, show (30 : Int32) + nI w = nI (30 + w) from nI_add 30 w]
  cases b with
  | false => rw [if_pos (show b2i false = 0 from rfl), w84 L (by omega), Option.bind_some, if_pos b2i_0]; rfl
  | true => rw [if_neg (show ¬ b2i true = 0 by decide), mf L, Option.bind_some, h16, w84 L (by omega), Option.bind_some, if_pos b2i_0]; rfl
theorem m_sg {sp dr n s e w : Nat} {B : Nat → Nat} (hn : n ≤ 200) (hw : w < 9) (hse : s < e) (he : e ≤ n) (h5 : e - s ≤ 5) (hB : ∀ i, s ≤ i → i < e → 97 ≤ B i ∧ B i ≤ 122) : ∀ d fuel i M, i + d = e - s → d < fuel → LAY M sp dr → RX M B n → TKN M s e 1 → (∀ j, j < i → gI M 84 (39 + 5 * w + j) = nI (B (s + j) - 97)) → ∃ M', lp (fun t => z_X7_readsSigns_29 t.2.2 81 (nI w) t.1 t.2.1) fuel (b2i (sgn B s (s + i)), nI i, M) = some (b2i (sgn B s e), M') ∧ AgP M M' (PS w) ∧ (sgn B s e = true → gI M' 84 (30 + w) = nI (e - s) ∧ ∀ j, j < e - s → gI M' 84 (39 + 5 * w + j) = nI (B (s + j) - 97)) := by
  intro d
  induction d with
  | zero =>
    intro fuel i M hi hf L X h hc
    obtain ⟨fuel, rfl⟩ : ∃ m, fuel = m + 1 := ⟨fuel - 1, by omega⟩
    obtain rfl : i = e - s := by omega
    rw [show s + (e - s) = e by omega]
    have h94 := m_94 (b := sgn B s e) L hw h.2.2.2
    refine ⟨_, lp_l (r := (b2i (sgn B s e), sI M 84 (30 + w) (if sgn B s e = true then nI (e - s) else 0))) ?_, AgP.rf.sI ⟨rfl, Or.inl rfl⟩, fun hs => ⟨?_, fun j hj => ?_⟩⟩
    · show z_X7_readsSigns_29 M 81 (nI w) (b2i (sgn B s e)) (nI (e - s)) = _
      unfold z_X7_readsSigns_29
      rw [mf L, Option.bind_some, h.2.2.2, if_pos (Int32.le_refl _), h94]
      rfl
    · rw [gp_same, if_pos hs]
    · rw [gp_oth (by omega)]
      exact hc j hj
  | succ d ih =>
    intro fuel i M hi hf L X h hc
    obtain ⟨fuel, rfl⟩ : ∃ m, fuel = m + 1 := ⟨fuel - 1, by omega⟩
    have c1 : ¬ nI (e - s) ≤ nI i := fun e => by have := (nI_leI (by omega) (by omega)).mp e; omega
    cases hsg : sgn B s (s + i) with
    | false =>
      have hse2 : sgn B s e = false := by
        have := sgn_f hsg (by omega) (e - (s + i))
        rw [show s + i + (e - (s + i)) = e by omega] at this
        exact this
      have h94 := m_94 (b := false) L hw h.2.2.2
      rw [hse2]
      refine ⟨_, lp_l (r := (b2i false, sI M 84 (30 + w) (if false = true then nI (e - s) else 0))) ?_, AgP.rf.sI ⟨rfl, Or.inl rfl⟩, fun hs => by cases hs⟩
      show z_X7_readsSigns_29 M 81 (nI w) (b2i false) (nI i) = _
      unfold z_X7_readsSigns_29
      rw [mf L, Option.bind_some, h.2.2.2, if_neg c1, if_pos (show b2i false = 0 from rfl), h94]
      rfl
    | true =>
      have hb := hB (s + i) (by omega) (by omega)
      have hbt := (X.2 (s + i) (by omega)).2
      have e97 : byt B n (s + i) - 97 = nI (B (s + i) - 97) := by
        unfold byt
        rw [if_pos (by omega)]
        have := nI_sub 97 (B (s + i) - 97)
        rw [show 97 + (B (s + i) - 97) = B (s + i) by omega] at this
        exact this
      have a : AgP M (sI M 84 (39 + 5 * w + i) (nI (B (s + i) - 97))) (PS w) := AgP.rf.sI ⟨rfl, Or.inr (by omega)⟩
      have aR : AgP M (sI M 84 (39 + 5 * w + i) (nI (B (s + i) - 97))) PR := AgP.rf.sI (Or.inr rfl)
      have L2 := L.agp a
      have X2 := X.pr aR
      have h2 : TKN (sI M 84 (39 + 5 * w + i) (nI (B (s + i) - 97))) s e 1 := h.c84
      have hc2 : ∀ j, j < i + 1 → gI (sI M 84 (39 + 5 * w + i) (nI (B (s + i) - 97))) 84 (39 + 5 * w + j) = nI (B (s + j) - 97) := by
        intro j hj
        by_cases hji : j = i
        · rw [hji, gp_same]
        · rw [gp_oth (by omega)]
          exact hc j (by omega)
      obtain ⟨M', f, a', v⟩ := ih fuel (i + 1) _ (by omega) (by omega) L2 X2 h2 hc2
      refine ⟨M', ?_, a.tr a', v⟩
      refine lp_r ?_ f
      show z_X7_readsSigns_29 M 81 (nI w) (b2i true) (nI i) = _
      have e3 : ((39 : Int32) + 5 * nI w) + nI i = nI (39 + 5 * w + i) := by
        rw [show (5 : Int32) = nI 5 from rfl, show (39 : Int32) = nI 39 from rfl, nI_mul, nI_add, nI_add]
      have c104 : ((104 : Int32) < nI (B (s + i))) = (104 < B (s + i)) := nn_lt (a := 104) (by decide) (by omega)
      unfold z_X7_readsSigns_29
      rw [mf L, Option.bind_some, h.2.2.2, if_neg c1, if_neg (show ¬ b2i true = 0 by decide), r4 L, Option.bind_some, mf L, Option.bind_some, h.2.2.1, nI_add, m_byte L X hn (by omega), Option.bind_some, e3, e97, w84 L (by omega), Option.bind_some, mf L2, Option.bind_some, h2.2.2.1, nI_add, m_byte L2 X2 hn (by omega), Option.bind_some, byt, if_pos (show s + i < n by omega), show s + (i + 1) = s + i + 1 by omega, sgn_s (by omega), hsg, Bool.true_and]
      unfold j_X7_readsSigns_87
      by_cases hq : B (s + i) ≤ 104
      · rw [if_neg (by rw [c104]; omega), decide_eq_true hq, nI_1]
        rfl
      · rw [if_pos (by rw [c104]; omega), decide_eq_false hq, nI_1]
        rfl
theorem m_signs {sp dr n p s e k w : Nat} {B : Nat → Nat} {M : MM} (L : LAY M sp dr) (X : RX M B n) (hn : n ≤ 200) (hp : p ≤ n) (g : gI M 81 13 = nI p) (t : TOKN B n p s e k) (hw : w < 9) : ∃ M', f_X7_readsSigns M 81 (nI w) = some (b2i (sgT B s e k), M') ∧ AgP M M' (fun p j => PU p j ∨ PS w p j) ∧ TKN M' s e k ∧ (sgT B s e k = true → gI M' 84 (30 + w) = nI (e - s) ∧ ∀ j, j < e - s → gI M' 84 (39 + 5 * w + j) = nI (B (s + j) - 97)) := by
  obtain ⟨M1, f1, a1, h1⟩ := m_tok L X hn hp g t
  have L1 := L.agp a1
  have X1 := X.pu a1
  have hse := tok_e t
  have hk5 := tok_k t
  have ck1 : (nI k = 1) = (k = 1) := nn_eq (b := 1) (by omega) (by decide)
  have c6 : ((6 : Int32) ≤ nI (e - s)) = (6 ≤ e - s) := nn_le (a := 6) (by decide) (by omega)
  have bad : (¬ (k = 1 ∧ e - s ≤ 5)) → j_X7_readsSigns_25 M1 81 (nI w) = some (0, sI M1 84 (30 + w) 0) := by
    intro hb
    unfold j_X7_readsSigns_25 j_X7_readsSigns_26
    refine lp_l (n := 3999) ?_
    have h94 := m_94 (b := false) (s := s) (e := e) L1 hw h1.2.2.2
    show z_X7_readsSigns_29 M1 81 (nI w) 0 0 = _
    unfold z_X7_readsSigns_29
    rw [mf L1, Option.bind_some]
    split
    · rw [show (0 : Int32) = b2i false from rfl, h94]
      rfl
    · rw [if_pos rfl, show (0 : Int32) = b2i false from rfl, h94]
      rfl
  have badT : (¬ (k = 1 ∧ e - s ≤ 5)) → sgT B s e k = false := fun hb => decide_eq_false (fun q => hb ⟨q.1, by omega⟩)
  have hbadm : ∀ (o : Option (Int32 × MM)), o = some (0, sI M1 84 (30 + w) 0) → (¬ (k = 1 ∧ e - s ≤ 5)) → ∃ M', o = some (b2i (sgT B s e k), M') ∧ AgP M M' (fun p j => PU p j ∨ PS w p j) ∧ TKN M' s e k ∧ (sgT B s e k = true → gI M' 84 (30 + w) = nI (e - s) ∧ ∀ j, j < e - s → gI M' 84 (39 + 5 * w + j) = nI (B (s + j) - 97)) := by
    intro o ho hb
    rw [badT hb]
    exact ⟨_, ho, (a1.mono (fun _ _ h => Or.inl h)).sI (Or.inr ⟨rfl, Or.inl rfl⟩), h1.c84, fun h => by cases h⟩
  unfold f_X7_readsSigns
  rw [if_pos (r81 L), f1, Option.bind_some, if_pos a1.1, mf L1, Option.bind_some, h1.2.1]
  by_cases k1 : k = 1
  · rw [if_pos (by rw [ck1]; exact k1), mf L1, Option.bind_some, h1.2.2.2]
    by_cases h6 : 6 ≤ e - s
    · rw [if_pos (by rw [c6]; exact h6)]
      exact hbadm _ (bad (by omega)) (by omega)
    · rw [if_neg (by rw [c6]; exact h6)]
      obtain ⟨q1, q2, q3⟩ := tok_1 t k1
      subst k1
      obtain ⟨M2, f2, a2, v2⟩ := m_sg (B := B) (w := w) hn hw q1 q2 (by omega) q3 (e - s) FU 0 M1 (by omega) (show e - s < 4000 by omega) L1 X1 h1 (fun j hj => absurd hj (by omega))
      have hsT : sgT B s e 1 = sgn B s e := by
        unfold sgT
        cases hs : sgn B s e with
        | true => exact decide_eq_true ⟨rfl, rfl, by omega⟩
        | false => exact decide_eq_false (fun q => by cases q.2.1)
      rw [hsT]
      unfold j_X7_readsSigns_26
      rw [Nat.add_zero, show b2i (sgn B s s) = 1 by simp [sgn, b2i], n00] at f2
      refine ⟨M2, f2, (a1.mono (fun _ _ h => Or.inl h)).tr (a2.mono (fun _ _ h => Or.inr h)), ?_, v2⟩
      have o : ∀ j, gI M2 81 j = gI M1 81 j := fun j => a2.2.2.2 81 j (fun e => absurd e.1 (by decide))
      exact ⟨by rw [o]; exact h1.1, by rw [o]; exact h1.2.1, by rw [o]; exact h1.2.2.1, by rw [o]; exact h1.2.2.2⟩
  · rw [if_neg (by rw [ck1]; exact k1)]
    exact hbadm _ (bad (by omega)) (by omega)
