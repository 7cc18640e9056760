/-! PURE: the class's reading of a shape -/
theorem c_addS {M M' : MM} {T : TG} {dr len : Nat} {ks : Nat → Nat} (hC : CTg M dr T) (hw : tNw T ≤ 9) (hs : tNs T < 4) (h0 : ∀ q j, ¬ q = 1 → ¬ q = dr + 21 + 2 * tNs T → ¬ q = dr + 22 + 2 * tNs T → ¬ (q = dr ∧ j = 3) → gI M' q j = gI M q j) (hd : 23 ≤ dr) (h3 : gI M' dr 3 = nI (tNs T + 1)) (hl : gI M' (dr + 21 + 2 * tNs T) 1 = nI len) (hk : ∀ i, i < len → gI M' (dr + 22 + 2 * tNs T) i = nI (ks i)) : CTg M' dr (addS T len ks) := by
  refine ⟨?_, ?_, fun w hw2 => ?_, fun s hs2 => ?_⟩
  · rw [h0 dr 2 (by omega) (by omega) (by omega) (by omega)]
    exact hC.1
  · exact h3
  · have hw3 : w < tNw T := hw2
    have nn : ∀ j, gI M' (dr + 3 + 2 * w) j = gI M (dr + 3 + 2 * w) j := fun j => h0 _ j (by omega) (by omega) (by omega) (by omega)
    have nn2 : ∀ j, gI M' (dr + 4 + 2 * w) j = gI M (dr + 4 + 2 * w) j := fun j => h0 _ j (by omega) (by omega) (by omega) (by omega)
    obtain ⟨o1, o2, o3, o4, o5⟩ := hC.2.2.1 w hw3
    rw [nn, nn, nn, nn]
    exact ⟨o1, o2, o3, o4, fun i hi => by rw [nn2]; exact o5 i hi⟩
  · by_cases hse : s = tNs T
    · subst hse
      have e1 : tSl (addS T len ks) (tNs T) = len := if_pos rfl
      have e2 : ∀ i, tSk (addS T len ks) (tNs T) i = ks i := fun i => if_pos rfl
      rw [e1, hl]
      exact ⟨rfl, fun i hi => by rw [e2]; exact hk i hi⟩
    · have hs3 : s < tNs T := by
        have : s < tNs T + 1 := hs2
        omega
      have e1 : tSl (addS T len ks) s = tSl T s := if_neg hse
      have e2 : ∀ i, tSk (addS T len ks) s i = tSk T s i := fun i => if_neg hse
      obtain ⟨o1, o2⟩ := hC.2.2.2 s hs3
      rw [e1, h0 _ _ (by omega) (by omega) (by omega) (by omega)]
      exact ⟨o1, fun i hi => by rw [e2, h0 _ _ (by omega) (by omega) (by omega) (by omega)]; exact o2 i hi⟩
theorem c_shI {sp dr n p s e k sc sa i : Nat} {B : Nat → Nat} {M : MM} (L : LAY M sp dr) (X : TX M B n) (hn : n ≤ 200) (hp : p ≤ n) (g3 : gI M 1 3 = nI p) (t : TOKN B n p s e k) (kc : kd sc = 2) (ka : kd sa = 8) (la : ln sa = 3) (hc : sc < 93) (ha : sa < 93) (h1 : ¬ sa = 1) (h2 : ¬ sc = 1) (h3 : ¬ sc = sa) (gr : gR M sc 0 = some sa) (hi : i < 3) : (fig B s e k 2 = false → ∃ M', z_X4_readShape_55 M 1 sc (nI i) = some (.inl (b2i (decide (k = 3)), M')) ∧ AgP M M' PT ∧ gI M' 1 2 = nI s ∧ gI M' 1 3 = nI e) ∧ (fig B s e k 2 = true → ∃ M', z_X4_readShape_55 M 1 sc (nI i) = some (.inr (nI (i + 1), M')) ∧ AgP M M' (fun p j => PT p j ∨ (p = sa ∧ j = i) ∨ (p = sc ∧ j = 1)) ∧ gI M' sa i = nI (B s - 48) ∧ gI M' sc 1 = nI (i + 1) ∧ gI M' 1 3 = nI e) := by
  obtain ⟨M1, f, a, v2, v3, v4, v5⟩ := c_num (m := 2) L X hn hp g3 t (by decide)
  have L1 := L.agp a
  have c3 : ¬ (3 : Int32) ≤ nI i := fun q => by have := (nI_leI (a := 3) (by decide) (by omega)).mp q; omega
  have hcs := csT_le (B := B) (s := s) (e := e) (k := k)
  have c2 : (nI (csT B s e k) = 2) = (csT B s e k = 2) := nn_eq (b := 2) (by omega) (by decide)
  constructor
  · intro hf
    refine ⟨M1, ?_, a, v2, v3⟩
    unfold z_X4_readShape_55
    rw [if_neg c3, show (2 : Int32) = nI 2 from rfl, f, Option.bind_some, if_pos a.1, hf, if_pos (show (b2i false, M1).1 = 0 from rfl), tf L1, Option.bind_some, v4]
    by_cases h : k = 3
    · rw [if_pos (show nI (csT B s e k) = nI 2 by rw [csT_2.mpr h]), decide_eq_true h]
      rfl
    · rw [if_neg (show ¬ nI (csT B s e k) = nI 2 from fun q => h (csT_2.mp ((nI_eq (by omega) (by decide)).mp q))), decide_eq_false h]
      rfl
  · intro hf
    have b1 : AgP M1 (sI M1 sa i (nI (B s - 48))) (fun p j => p = sa ∧ j = i) := AgP.rf.sI ⟨rfl, rfl⟩
    have L2 := L1.agp b1
    have y1 : gI (sI M1 sa i (nI (B s - 48))) sa i = nI (B s - 48) := by rw [gI_sI, if_pos ⟨rfl, rfl⟩]
    generalize hM2 : sI M1 sa i (nI (B s - 48)) = M2 at b1 L2 y1
    have b2 : AgP M2 (sI M2 sc 1 (nI (i + 1))) (fun p j => p = sc ∧ j = 1) := AgP.rf.sI ⟨rfl, rfl⟩
    refine ⟨sI M2 sc 1 (nI (i + 1)), ?_, ((a.mono (fun _ _ h => Or.inl h)).tr (b1.mono (fun _ _ h => Or.inr (Or.inl h)))).tr (b2.mono (fun _ _ h => Or.inr (Or.inr h))), ?_, ?_, ?_⟩
    · unfold z_X4_readShape_55
      rw [if_neg c3, show (2 : Int32) = nI 2 from rfl, f, Option.bind_some, if_pos a.1, hf, if_neg (show ¬ (b2i true, M1).1 = 0 by show ¬ b2i true = 0; decide), fR_e L1.1 hc (by rw [kc]; rfl), show gR M1 sc 0 = some sa by rw [a.2.1]; exact gr, Option.bind_some, tf L1, Option.bind_some, v5 hf, waI_e L1.1 ha (by rw [ka]; rfl) (by omega), Option.bind_some, hM2, nI_1, wfI_e L2.1 hc (by rw [kc]; rfl), Option.bind_some]
    · rw [b2.2.2.2 sa i (by omega)]; exact y1
    · rw [gI_sI, if_pos ⟨rfl, rfl⟩]
    · rw [b2.2.2.2 1 3 (by omega), b1.2.2.2 1 3 (by omega)]; exact v3
theorem c_shE {sp dr n p s e k sc : Nat} {B : Nat → Nat} {M : MM} (L : LAY M sp dr) (X : TX M B n) (hn : n ≤ 200) (hp : p ≤ n) (g3 : gI M 1 3 = nI p) (t : TOKN B n p s e k) : ∃ M', z_X4_readShape_55 M 1 sc (nI 3) = some (.inl (b2i (decide (k = 3)), M')) ∧ AgP M M' PT ∧ gI M' 1 2 = nI s ∧ gI M' 1 3 = nI e := by
  obtain ⟨M1, f, a, v2, v3⟩ := c_end L X hn hp g3 t
  refine ⟨M1, ?_, a, v2, v3⟩
  unfold z_X4_readShape_55
  rw [if_pos (by decide), f, Option.bind_some, if_pos a.1, if_pos b2i_0]
  rfl
theorem c_readShape {sp dr n p : Nat} {B : Nat → Nat} {M : MM} {T : TG} (L : LAY M sp dr) (X : TX M B n) (hn : n ≤ 200) (hp : p ≤ n) (g3 : gI M 1 3 = nI p) (hC : CTg M dr T) (hw : tNw T ≤ 9) (hs : tNs T < 4) : rdW dr n M (f_X4_readShape M dr 1) (pShape B n T p) := by
  obtain ⟨ks0, ks1, ks2, ks3, ks4, ks5, ks6, ks7, ks8⟩ := tkf L.dr
  obtain ⟨lt0, lt1, lt2, lt3⟩ := ly_t L dr L.dr
  obtain ⟨kc, ka, la⟩ := ks7 (tNs T) hs
  obtain ⟨gw, gr⟩ := lt3 (tNs T) hs
  have hdr := L.dr
  have hfin : ∀ M' len ks, _ → _ → _ → _ → CTg M' dr (addS T len ks) := fun M' len ks h0 h3 hl hk => c_addS (M' := M') (len := len) (ks := ks) hC hw hs h0 (by omega) h3 hl hk
  generalize hwc : dr + 21 + 2 * tNs T = sc at kc gw gr hfin
  generalize hwa : dr + 22 + 2 * tNs T = sa at ka la gr hfin
  have hc : sc < 93 := by omega
  have ha : sa < 93 := by omega
  have c4 : ¬ (4 : Int32) ≤ nI (tNs T) := fun q => by have := (nI_leI (a := 4) (by decide) (by omega)).mp q; omega
  have kdr : (kd dr == 4) = true := by rw [ks1]; rfl
  have bt1 : ¬ b2i true = 0 := by decide
  have hPC : ∀ M', AgP M M' (PC dr) → TX M' B n := fun M' A => X.agp A (fun h => by unfold PC at h; omega) (fun j h => by unfold PC at h; omega)
  unfold f_X4_readShape
  rw [if_pos ⟨by rw [L.1]; omega, ks1⟩, fI_e L.1 ks8 kdr, Option.bind_some, hC.2.1, if_neg c4]
  unfold pShape
  have t1 := tk_s (B := B) (n := n) hp
  generalize tk B n p = q1 at t1
  obtain ⟨s1, e1, k1⟩ := q1
  dsimp only at t1 ⊢
  have he1 := (tok_e t1).2
  obtain ⟨M1, f1, a1, v1, w1, -, x1⟩ := c_num (m := 2) L X hn hp g3 t1 (by decide)
  have A1 : AgP M M1 (PC dr) := a1.mono (fun _ _ h => Or.inl h)
  rw [show (2 : Int32) = nI 2 from rfl, f1, Option.bind_some, if_pos a1.1]
  cases hg1 : fig B s1 e1 k1 2 with
  | false =>
    rw [if_pos rfl]
    exact ⟨M1, by rw [if_pos (show (b2i false, M1).1 = 0 from rfl)], A1, v1⟩
  | true =>
    rw [if_neg (show ¬ (b2i true, M1).1 = 0 from bt1), if_neg (show ¬ true = false by decide)]
    have L1 := L.agp a1
    rw [fR_e L1.1 ks8 kdr, show gR M1 dr 1 = some (dr + 2) by rw [a1.2.1]; exact lt1, Option.bind_some, fI_e L1.1 ks8 kdr, Option.bind_some, show gI M1 dr 3 = nI (tNs T) by rw [PT.o a1 (by omega)]; exact hC.2.1, aR_e L1.1 (by omega) (by rw [ks4]; rfl) (by rw [ks5]; exact hs), show gR M1 (dr + 2) (tNs T) = some sc by rw [a1.2.1]; exact gw, Option.bind_some, fR_e L1.1 hc (by rw [kc]; rfl), show gR M1 sc 0 = some sa by rw [a1.2.1]; exact gr, Option.bind_some, tf L1, Option.bind_some, x1 hg1, ← n00, waI_e L1.1 ha (by rw [ka]; rfl) (by omega), Option.bind_some]
    have b2 : AgP M1 (sI M1 sa 0 (nI (B s1 - 48))) (fun p j => p = sa) := AgP.rf.sI rfl
    have y2 : gI (sI M1 sa 0 (nI (B s1 - 48))) sa 0 = nI (B s1 - 48) := by rw [gI_sI, if_pos ⟨rfl, rfl⟩]
    generalize sI M1 sa 0 (nI (B s1 - 48)) = M2 at b2 y2
    have L2 := L1.agp b2
    rw [wfI_e L2.1 hc (by rw [kc]; rfl), Option.bind_some]
    have b3 : AgP M2 (sI M2 sc 1 1) (fun p j => p = sc) := AgP.rf.sI rfl
    have y3 : gI (sI M2 sc 1 1) sc 1 = nI 1 := by rw [gI_sI, if_pos ⟨rfl, rfl⟩]; rfl
    generalize sI M2 sc 1 1 = M3 at b3 y3
    have L3 := L2.agp b3
    rw [fI_e L3.1 ks8 kdr, Option.bind_some, show gI M3 dr 3 = nI (tNs T) by rw [b3.2.2.2 dr 3 (by omega), b2.2.2.2 dr 3 (by omega), PT.o a1 (by omega)]; exact hC.2.1, nI_1, wfI_e L3.1 ks8 kdr, Option.bind_some]
    have b4 : AgP M3 (sI M3 dr 3 (nI (tNs T + 1))) (fun p j => p = dr ∧ j = 3) := AgP.rf.sI ⟨rfl, rfl⟩
    have y4 : gI (sI M3 dr 3 (nI (tNs T + 1))) dr 3 = nI (tNs T + 1) := by rw [gI_sI, if_pos ⟨rfl, rfl⟩]
    generalize sI M3 dr 3 (nI (tNs T + 1)) = M4 at b4 y4
    have L4 := L3.agp b4
    have A4 : AgP M M4 (PC dr) := ((A1.tr (b2.mono (fun p j h => Or.inr (by omega)))).tr (b3.mono (fun p j h => Or.inr (by omega)))).tr (b4.mono (fun p j h => Or.inr (by omega)))
    have X4 := hPC M4 A4
    have w4 : gI M4 1 3 = nI e1 := by rw [b4.2.2.2 1 3 (by omega), b3.2.2.2 1 3 (by omega), b2.2.2.2 1 3 (by omega)]; exact w1
    have old4 : ∀ q j, ¬ q = 1 → ¬ q = sc → ¬ q = sa → ¬ (q = dr ∧ j = 3) → gI M4 q j = gI M q j := fun q j h1 h2 h3 h4 => by rw [b4.2.2.2 q j h4, b3.2.2.2 q j h2, b2.2.2.2 q j h3, PT.o a1 h1]
    have l4 : gI M4 sc 1 = nI 1 := by rw [b4.2.2.2 sc 1 (by omega)]; exact y3
    have k4 : gI M4 sa 0 = nI (B s1 - 48) := by rw [b4.2.2.2 sa 0 (by omega), b3.2.2.2 sa 0 (by omega)]; exact y2
    have t5 := tk_s (B := B) (n := n) he1
    generalize tk B n e1 = q5 at t5
    obtain ⟨s5, e5, k5⟩ := q5
    dsimp only at t5 ⊢
    have he5 := (tok_e t5).2
    obtain ⟨z5, u5⟩ := c_shI (i := 1) L4 X4 hn he1 w4 t5 kc ka la hc ha (by omega) (by omega) (by omega) (by rw [A4.2.1]; exact gr) (by decide)
    cases hg5 : fig B s5 e5 k5 2 with
    | false =>
      rw [if_pos rfl]
      obtain ⟨M5, f5, a5, v5, w5⟩ := z5 hg5
      have A5 : AgP M M5 (PC dr) := A4.tr (a5.mono (fun _ _ h => Or.inl h))
      have hlp : lp (fun t => z_X4_readShape_55 t.2 1 sc t.1) FU (1, M4) = some (b2i (decide (k5 = 3)), M5) := lp_l (n := 3999) f5
      rw [hlp]
      by_cases h3 : k5 = 3
      · rw [if_pos h3, decide_eq_true h3]
        refine ⟨M5, rfl, A5, w5, he5, hfin M5 1 _ (fun q j g1 g2 g3 g4 => ?_) ?_ ?_ (fun i hi => ?_)⟩
        · rw [PT.o a5 g1]; exact old4 q j g1 g2 g3 g4
        · rw [PT.o a5 (by omega)]; exact y4
        · rw [PT.o a5 (by omega)]; exact l4
        · obtain rfl : i = 0 := by omega
          rw [PT.o a5 (by omega)]; exact k4
      · rw [if_neg h3, decide_eq_false h3]
        exact ⟨M5, rfl, A5, v5⟩
    | true =>
      rw [if_neg (show ¬ true = false by decide)]
      obtain ⟨M5, f5, a5, x5, l5, w5⟩ := u5 hg5
      have A5 : AgP M M5 (PC dr) := A4.tr (a5.mono (fun p j h => by
        rcases h with h | h | h
        · exact Or.inl h
        · exact Or.inr (by omega)
        · exact Or.inr (by omega)))
      have L5 := L4.agp a5
      have X5 := hPC M5 A5
      have t6 := tk_s (B := B) (n := n) he5
      generalize tk B n e5 = q6 at t6
      obtain ⟨s6, e6, k6⟩ := q6
      dsimp only at t6 ⊢
      have he6 := (tok_e t6).2
      have n5 : ∀ q j, ¬ q = 1 → ¬ (q = sa ∧ j = 1) → ¬ (q = sc ∧ j = 1) → gI M5 q j = gI M4 q j := fun q j h1 h2 h3 => a5.2.2.2 q j (fun h => by
        rcases h with h | h | h
        · exact h1 h.1
        · exact h2 h
        · exact h3 h)
      obtain ⟨z6, u6⟩ := c_shI (i := 2) L5 X5 hn he5 w5 t6 kc ka la hc ha (by omega) (by omega) (by omega) (by rw [A5.2.1]; exact gr) (by decide)
      cases hg6 : fig B s6 e6 k6 2 with
      | false =>
        rw [if_pos rfl]
        obtain ⟨M6, f6, a6, v6, w6⟩ := z6 hg6
        have A6 : AgP M M6 (PC dr) := A5.tr (a6.mono (fun _ _ h => Or.inl h))
        have hlp : lp (fun t => z_X4_readShape_55 t.2 1 sc t.1) FU (1, M4) = some (b2i (decide (k6 = 3)), M6) := lp_r (n := 3999) f5 (lp_l (n := 3998) f6)
        rw [hlp]
        by_cases h3 : k6 = 3
        · rw [if_pos h3, decide_eq_true h3]
          refine ⟨M6, rfl, A6, w6, he6, hfin M6 2 _ (fun q j g1 g2 g3 g4 => ?_) ?_ ?_ (fun i hi => ?_)⟩
          · rw [PT.o a6 g1, n5 q j g1 (by omega) (by omega)]; exact old4 q j g1 g2 g3 g4
          · rw [PT.o a6 (by omega), n5 dr 3 (by omega) (by omega) (by omega)]; exact y4
          · rw [PT.o a6 (by omega)]; exact l5
          · rw [PT.o a6 (by omega)]
            rcases (show i = 0 ∨ i = 1 by omega) with rfl | rfl
            · rw [n5 sa 0 (by omega) (by omega) (by omega)]; exact k4
            · exact x5
        · rw [if_neg h3, decide_eq_false h3]
          exact ⟨M6, rfl, A6, v6⟩
      | true =>
        rw [if_neg (show ¬ true = false by decide)]
        obtain ⟨M6, f6, a6, x6, l6, w6⟩ := u6 hg6
        have A6 : AgP M M6 (PC dr) := A5.tr (a6.mono (fun p j h => by
          rcases h with h | h | h
          · exact Or.inl h
          · exact Or.inr (by omega)
          · exact Or.inr (by omega)))
        have L6 := L5.agp a6
        have X6 := hPC M6 A6
        have t7 := tk_s (B := B) (n := n) he6
        generalize tk B n e6 = q7 at t7
        obtain ⟨s7, e7, k7⟩ := q7
        dsimp only at t7 ⊢
        have he7 := (tok_e t7).2
        have n6 : ∀ q j, ¬ q = 1 → ¬ (q = sa ∧ j = 2) → ¬ (q = sc ∧ j = 1) → gI M6 q j = gI M5 q j := fun q j h1 h2 h3 => a6.2.2.2 q j (fun h => by
          rcases h with h | h | h
          · exact h1 h.1
          · exact h2 h
          · exact h3 h)
        obtain ⟨M7, f7, a7, v7, w7⟩ := c_shE (sc := sc) L6 X6 hn he6 w6 t7
        have A7 : AgP M M7 (PC dr) := A6.tr (a7.mono (fun _ _ h => Or.inl h))
        have hlp : lp (fun t => z_X4_readShape_55 t.2 1 sc t.1) FU (1, M4) = some (b2i (decide (k7 = 3)), M7) := lp_r (n := 3999) f5 (lp_r (n := 3998) f6 (lp_l (n := 3997) f7))
        rw [hlp]
        by_cases h3 : k7 = 3
        · rw [if_pos h3, decide_eq_true h3]
          refine ⟨M7, rfl, A7, w7, he7, hfin M7 3 _ (fun q j g1 g2 g3 g4 => ?_) ?_ ?_ (fun i hi => ?_)⟩
          · rw [PT.o a7 g1, n6 q j g1 (by omega) (by omega), n5 q j g1 (by omega) (by omega)]; exact old4 q j g1 g2 g3 g4
          · rw [PT.o a7 (by omega), n6 dr 3 (by omega) (by omega) (by omega), n5 dr 3 (by omega) (by omega) (by omega)]; exact y4
          · rw [PT.o a7 (by omega)]; exact l6
          · rw [PT.o a7 (by omega)]
            rcases (show i = 0 ∨ i = 1 ∨ i = 2 by omega) with rfl | rfl | rfl
            · rw [n6 sa 0 (by omega) (by omega) (by omega), n5 sa 0 (by omega) (by omega) (by omega)]; exact k4
            · rw [n6 sa 1 (by omega) (by omega) (by omega)]; exact x5
            · exact x6
        · rw [if_neg h3, decide_eq_false h3]
          exact ⟨M7, rfl, A7, v7⟩
