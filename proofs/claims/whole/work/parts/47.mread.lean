/-! PURE: the reference's reading -/
theorem MTg.at {M M' : MM} {T : TG} {q : Nat} (h : MTg M q T) (hT : TOK T) (h0 : ∀ j, j < 110 → ¬ j = 2 → gI M' q j = gI M q j) : MTg M' q T := by
  obtain ⟨a, b, c, d⟩ := h
  have h9 := hT.1
  have h4 := hT.2.1
  refine ⟨by rw [h0 0 (by omega) (by omega)]; exact a, by rw [h0 1 (by omega) (by omega)]; exact b, fun w hw => ?_, fun s hs => ?_⟩
  · obtain ⟨c1, c2, c3, c4, c5⟩ := c w hw
    have := (hT.2.2.1 w hw).2.1
    rw [h0 _ (by omega) (by omega), h0 _ (by omega) (by omega), h0 _ (by omega) (by omega), h0 _ (by omega) (by omega)]
    exact ⟨c1, c2, c3, c4, fun i hi => by rw [h0 _ (by omega) (by omega)]; exact c5 i hi⟩
  · obtain ⟨d1, d2⟩ := d s hs
    have := (hT.2.2.2 s hs).2.1
    rw [h0 _ (by omega) (by omega)]
    exact ⟨d1, fun i hi => by rw [h0 _ (by omega) (by omega)]; exact d2 i hi⟩
theorem m_addW {M M' : MM} {T : TG} {len kn ow ot : Nat} {sg : Nat → Nat} (hM : MTg M 84 T) (hT : TOK T) (hw : tNw T < 9) (hl : len ≤ 5) (h0 : ∀ j, j < 110 → ¬ j = 0 → ¬ j = 3 + tNw T → ¬ j = 12 + tNw T → ¬ j = 21 + tNw T → ¬ j = 30 + tNw T → ¬ (39 + 5 * tNw T ≤ j ∧ j < 44 + 5 * tNw T) → gI M' 84 j = gI M 84 j) (g0 : gI M' 84 0 = nI (tNw T + 1)) (g1 : gI M' 84 (3 + tNw T) = nI kn) (g2 : gI M' 84 (12 + tNw T) = nI ow) (g3 : gI M' 84 (21 + tNw T) = nI ot) (g4 : gI M' 84 (30 + tNw T) = nI len) (g5 : ∀ i, i < len → gI M' 84 (39 + 5 * tNw T + i) = nI (sg i)) : MTg M' 84 (addW T len sg kn ow ot) := by
  obtain ⟨a, b, c, d⟩ := hM
  have h4 := hT.2.1
  refine ⟨g0, ?_, fun w hw2 => ?_, fun s hs2 => ?_⟩
  · rw [h0 1 (by omega) (by omega) (by omega) (by omega) (by omega) (by omega) (by omega)]
    exact b
  · by_cases hwe : w = tNw T
    · subst hwe
      have e1' : tWl (addW T len sg kn ow ot) (tNw T) = len := if_pos rfl
      have e2' : tKn (addW T len sg kn ow ot) (tNw T) = kn := if_pos rfl
      have e3' : tOw (addW T len sg kn ow ot) (tNw T) = ow := if_pos rfl
      have e4' : tOt (addW T len sg kn ow ot) (tNw T) = ot := if_pos rfl
      have e5' : ∀ i, tSg (addW T len sg kn ow ot) (tNw T) i = sg i := fun i => if_pos rfl
      rw [e1', e2', e3', e4']
      exact ⟨g1, g2, g3, g4, fun i hi => by rw [e5']; exact g5 i hi⟩
    · have hw3 : w < tNw T := by
        have : w < tNw T + 1 := hw2
        omega
      have e1' : tWl (addW T len sg kn ow ot) w = tWl T w := if_neg hwe
      have e2' : tKn (addW T len sg kn ow ot) w = tKn T w := if_neg hwe
      have e3' : tOw (addW T len sg kn ow ot) w = tOw T w := if_neg hwe
      have e4' : tOt (addW T len sg kn ow ot) w = tOt T w := if_neg hwe
      have e5' : ∀ i, tSg (addW T len sg kn ow ot) w i = tSg T w i := fun i => if_neg hwe
      obtain ⟨c1, c2, c3, c4, c5⟩ := c w hw3
      have := (hT.2.2.1 w hw3).2.1
      rw [e1', e2', e3', e4', h0 (3 + w) (by omega) (by omega) (by omega) (by omega) (by omega) (by omega) (by omega), h0 (12 + w) (by omega) (by omega) (by omega) (by omega) (by omega) (by omega) (by omega), h0 (21 + w) (by omega) (by omega) (by omega) (by omega) (by omega) (by omega) (by omega), h0 (30 + w) (by omega) (by omega) (by omega) (by omega) (by omega) (by omega) (by omega)]
      exact ⟨c1, c2, c3, c4, fun i hi => by rw [e5', h0 (39 + 5 * w + i) (by omega) (by omega) (by omega) (by omega) (by omega) (by omega) (by omega)]; exact c5 i hi⟩
  · have hs3 : s < tNs T := hs2
    obtain ⟨d1, d2⟩ := d s hs3
    have := (hT.2.2.2 s hs3).2.1
    have e1 : tSl (addW T len sg kn ow ot) s = tSl T s := rfl
    have e2 : ∀ i, tSk (addW T len sg kn ow ot) s i = tSk T s i := fun i => rfl
    rw [e1, h0 (84 + s) (by omega) (by omega) (by omega) (by omega) (by omega) (by omega) (by omega)]
    exact ⟨d1, fun i hi => by rw [e2, h0 (88 + 3 * s + i) (by omega) (by omega) (by omega) (by omega) (by omega) (by omega) (by omega)]; exact d2 i hi⟩
theorem m_addS {M M' : MM} {T : TG} {len : Nat} {ks : Nat → Nat} (hM : MTg M 84 T) (hT : TOK T) (hs : tNs T < 4) (hl : len ≤ 3) (h0 : ∀ j, j < 110 → ¬ j = 1 → ¬ j = 84 + tNs T → ¬ (88 + 3 * tNs T ≤ j ∧ j < 91 + 3 * tNs T) → gI M' 84 j = gI M 84 j) (g1 : gI M' 84 1 = nI (tNs T + 1)) (g2 : gI M' 84 (84 + tNs T) = nI len) (g3 : ∀ i, i < len → gI M' 84 (88 + 3 * tNs T + i) = nI (ks i)) : MTg M' 84 (addS T len ks) := by
  obtain ⟨a, b, c, d⟩ := hM
  have h9 := hT.1
  refine ⟨?_, g1, fun w hw => ?_, fun s hs2 => ?_⟩
  · rw [h0 0 (by omega) (by omega) (by omega) (by omega)]
    exact a
  · have hw3 : w < tNw T := hw
    obtain ⟨c1, c2, c3, c4, c5⟩ := c w hw3
    have := (hT.2.2.1 w hw3).2.1
    have e1 : tWl (addS T len ks) w = tWl T w := rfl
    have e2 : tKn (addS T len ks) w = tKn T w := rfl
    have e3 : tOw (addS T len ks) w = tOw T w := rfl
    have e4 : tOt (addS T len ks) w = tOt T w := rfl
    have e5 : ∀ i, tSg (addS T len ks) w i = tSg T w i := fun i => rfl
    rw [e1, e2, e3, e4, h0 (3 + w) (by omega) (by omega) (by omega) (by omega), h0 (12 + w) (by omega) (by omega) (by omega) (by omega), h0 (21 + w) (by omega) (by omega) (by omega) (by omega), h0 (30 + w) (by omega) (by omega) (by omega) (by omega)]
    exact ⟨c1, c2, c3, c4, fun i hi => by rw [e5, h0 (39 + 5 * w + i) (by omega) (by omega) (by omega) (by omega)]; exact c5 i hi⟩
  · by_cases hse : s = tNs T
    · subst hse
      have e1 : tSl (addS T len ks) (tNs T) = len := if_pos rfl
      have e2 : ∀ i, tSk (addS T len ks) (tNs T) i = ks i := fun i => if_pos rfl
      rw [e1]
      exact ⟨g2, fun i hi => by rw [e2]; exact g3 i hi⟩
    · have hs3 : s < tNs T := by
        have : s < tNs T + 1 := hs2
        omega
      have e1 : tSl (addS T len ks) s = tSl T s := if_neg hse
      have e2 : ∀ i, tSk (addS T len ks) s i = tSk T s i := fun i => if_neg hse
      obtain ⟨d1, d2⟩ := d s hs3
      have := (hT.2.2.2 s hs3).2.1
      rw [e1, h0 (84 + s) (by omega) (by omega) (by omega) (by omega)]
      exact ⟨d1, fun i hi => by rw [e2, h0 (88 + 3 * s + i) (by omega) (by omega) (by omega) (by omega)]; exact d2 i hi⟩
def rdR (n : Nat) (M : MM) (o : Option (Int32 × MM)) : Nat ⊕ (TG × Nat) → Prop
  | .inl s => ∃ M' v, o = some (v, M') ∧ AgP M M' PR ∧ gI M' 81 15 = nI s ∧ (v = 0 ∨ (v = 1 ∧ ¬ gI M' 81 14 = 3))
  | .inr (T', e) => ∃ M', o = some (1, M') ∧ AgP M M' PR ∧ gI M' 81 14 = 3 ∧ gI M' 81 13 = nI e ∧ e ≤ n ∧ MTg M' 84 T' ∧ gI M' 84 2 = gI M 84 2
theorem PU.o {M M' : MM} (a : AgP M M' PU) {q j : Nat} (h : ¬ q = 81) : gI M' q j = gI M q j := a.2.2.2 q j (fun e => h e.1)
theorem m_readsWord {sp dr n p : Nat} {B : Nat → Nat} {M : MM} {T : TG} (L : LAY M sp dr) (X : RX M B n) (hn : n ≤ 200) (hp : p ≤ n) (g : gI M 81 13 = nI p) (hM : MTg M 84 T) (hT : TOK T) (hw : tNw T < 9) : rdR n M (f_X7_readsWord M 81) (pWord B n T p) := by
  have c9 : ¬ nI (tNw T) = 9 := fun q => by have := (nI_eq (b := 9) (by omega) (by decide)).mp q; omega
  have bt1 : ¬ b2i true = 0 := by decide
  unfold f_X7_readsWord
  rw [if_pos (r81 L), r4 L, Option.bind_some, ← n00, a84 L (by decide), Option.bind_some, hM.1, if_neg c9, n00]
  unfold pWord
  have t1 := tk_s (B := B) (n := n) hp
  generalize tk B n p = q1 at t1
  obtain ⟨s1, e1, k1⟩ := q1
  dsimp only at t1 ⊢
  have he1 := (tok_e t1).2
  obtain ⟨M1, f1, a1, h1, x1⟩ := m_signs L X hn hp g t1 hw
  have A1 : AgP M M1 PR := a1.mono (fun p j h => h.imp id (fun q => q.1))
  rw [f1, Option.bind_some, if_pos a1.1]
  cases hg1 : sgT B s1 e1 k1 with
  | false =>
    rw [if_pos rfl]
    exact ⟨M1, 0, by rw [if_pos (show (b2i false, M1).1 = 0 from rfl)], A1, h1.2.2.1, Or.inl rfl⟩
  | true =>
    rw [if_neg (show ¬ (b2i true, M1).1 = 0 from bt1), if_neg (show ¬ true = false by decide)]
    obtain ⟨y1, y2⟩ := x1 hg1
    have L1 := L.agp A1
    have X1 := X.pr A1
    have sb := sgT_b t1 hg1
    have t2 := tk_s (B := B) (n := n) he1
    generalize tk B n e1 = q2 at t2
    obtain ⟨s2, e2, k2⟩ := q2
    dsimp only at t2 ⊢
    have he2 := (tok_e t2).2
    obtain ⟨M2, f2, a2, h2, x2⟩ := m_readsNumber (m := 2) (pl := 3 + tNw T) L1 X1 hn he1 h1.1 t2 (by decide) (by omega)
    have A2 : AgP M M2 PR := A1.tr (a2.mono (fun p j h => h.imp id (fun q => q.1)))
    rw [show (2 : Int32) = nI 2 from rfl, show (3 : Int32) + nI (tNw T) = nI (3 + tNw T) from nI_add 3 _, f2, Option.bind_some, if_pos a2.1]
    cases hg2 : fig B s2 e2 k2 2 with
    | false =>
      rw [if_pos rfl]
      exact ⟨M2, 0, by rw [if_pos (show (b2i false, M2).1 = 0 from rfl)], A2, h2.2.2.1, Or.inl rfl⟩
    | true =>
      rw [if_neg (show ¬ (b2i true, M2).1 = 0 from bt1), if_neg (show ¬ true = false by decide)]
      have L2 := L.agp A2
      have X2 := X.pr A2
      have t3 := tk_s (B := B) (n := n) he2
      generalize tk B n e2 = q3 at t3
      obtain ⟨s3, e3, k3⟩ := q3
      dsimp only at t3 ⊢
      have he3 := (tok_e t3).2
      obtain ⟨M3, f3, a3, h3, x3⟩ := m_readsNumber (m := 9) (pl := 12 + tNw T) L2 X2 hn he2 h2.1 t3 (by decide) (by omega)
      have A3 : AgP M M3 PR := A2.tr (a3.mono (fun p j h => h.imp id (fun q => q.1)))
      rw [show (9 : Int32) = nI 9 from rfl, show (12 : Int32) + nI (tNw T) = nI (12 + tNw T) from nI_add 12 _, f3, Option.bind_some, if_pos a3.1]
      cases hg3 : fig B s3 e3 k3 9 with
      | false =>
        rw [if_pos rfl]
        exact ⟨M3, 0, by rw [if_pos (show (b2i false, M3).1 = 0 from rfl)], A3, h3.2.2.1, Or.inl rfl⟩
      | true =>
        rw [if_neg (show ¬ (b2i true, M3).1 = 0 from bt1), if_neg (show ¬ true = false by decide)]
        have L3 := L.agp A3
        have X3 := X.pr A3
        have t4 := tk_s (B := B) (n := n) he3
        generalize tk B n e3 = q4 at t4
        obtain ⟨s4, e4, k4⟩ := q4
        dsimp only at t4 ⊢
        have he4 := (tok_e t4).2
        obtain ⟨M4, f4, a4, h4, x4⟩ := m_readsNumber (m := 9) (pl := 21 + tNw T) L3 X3 hn he3 h3.1 t4 (by decide) (by omega)
        have A4 : AgP M M4 PR := A3.tr (a4.mono (fun p j h => h.imp id (fun q => q.1)))
        rw [show (21 : Int32) + nI (tNw T) = nI (21 + tNw T) from nI_add 21 _, f4, Option.bind_some, if_pos a4.1]
        cases hg4 : fig B s4 e4 k4 9 with
        | false =>
          rw [if_pos rfl]
          exact ⟨M4, 0, by rw [if_pos (show (b2i false, M4).1 = 0 from rfl)], A4, h4.2.2.1, Or.inl rfl⟩
        | true =>
          rw [if_neg (show ¬ (b2i true, M4).1 = 0 from bt1), if_neg (show ¬ true = false by decide)]
          have L4 := L.agp A4
          have o1 : ∀ j, ¬ PS (tNw T) 84 j → gI M1 84 j = gI M 84 j := fun j hj => a1.2.2.2 84 j (fun q => by
            rcases q with q | q
            · exact absurd q.1 (by decide)
            · exact hj q)
          have on : ∀ {N N' : MM} {pl j : Nat}, AgP N N' (fun p j => PU p j ∨ (p = 84 ∧ j = pl)) → ¬ j = pl → gI N' 84 j = gI N 84 j := fun a hj => a.2.2.2 84 _ (fun q => by
            rcases q with q | q
            · exact absurd q.1 (by decide)
            · exact hj q.2)
          have z4 : gI M4 84 0 = nI (tNw T) := by rw [on a4 (by omega), on a3 (by omega), on a2 (by omega), o1 0 (fun q => by unfold PS at q; omega)]; exact hM.1
          rw [r4 L4, Option.bind_some, ← n00, a84 L4 (by decide), Option.bind_some, z4, nI_1, w84 L4 (by decide), Option.bind_some]
          have a5 : AgP M4 (sI M4 84 0 (nI (tNw T + 1))) (fun p j => p = 84 ∧ j = 0) := AgP.rf.sI ⟨rfl, rfl⟩
          have y5 : gI (sI M4 84 0 (nI (tNw T + 1))) 84 0 = nI (tNw T + 1) := gp_same
          have h5 : TKN (sI M4 84 0 (nI (tNw T + 1))) s4 e4 k4 := h4.c84
          generalize sI M4 84 0 (nI (tNw T + 1)) = M5 at a5 y5 h5
          have A5 : AgP M M5 PR := A4.tr (a5.mono (fun p j h => Or.inr h.1))
          have L5 := L.agp A5
          have X5 := X.pr A5
          have t6 := tk_s (B := B) (n := n) he4
          generalize tk B n e4 = q6 at t6
          obtain ⟨s6, e6, k6⟩ := q6
          dsimp only at t6 ⊢
          have he6 := (tok_e t6).2
          have hk6 := tok_k t6
          obtain ⟨M6, f6, a6, h6⟩ := m_tok L5 X5 hn he4 h5.1 t6
          have A6 : AgP M M6 PR := A5.tr (a6.mono (fun p j h => Or.inl h))
          rw [f6, Option.bind_some, if_pos a6.1]
          have c3 : (gI M6 81 14 = 3) = (k6 = 3) := by rw [h6.2.1]; exact nn_eq (b := 3) (by omega) (by decide)
          by_cases hk : k6 = 3
          · rw [if_pos hk]
            have o6 : ∀ j, ¬ j = 0 → ¬ j = 3 + tNw T → ¬ j = 12 + tNw T → ¬ j = 21 + tNw T → gI M6 84 j = gI M1 84 j := fun j b0 b1 b2 b3 => by rw [PU.o a6 (by decide), a5.2.2.2 84 j (fun q => b0 q.2), on a4 b3, on a3 b2, on a2 b1]
            refine ⟨M6, rfl, A6, by rw [c3]; exact hk, h6.1, he6, m_addW hM hT hw (by omega) (fun j hj b0 b1 b2 b3 b4 b5 => ?_) ?_ ?_ ?_ ?_ ?_ (fun i hi => ?_), ?_⟩
            · rw [o6 j b0 b1 b2 b3, o1 j (fun q => by unfold PS at q; omega)]
            · rw [PU.o a6 (by decide)]; exact y5
            · rw [PU.o a6 (by decide), a5.2.2.2 84 _ (by omega), on a4 (by omega), on a3 (by omega)]; exact x2 hg2
            · rw [PU.o a6 (by decide), a5.2.2.2 84 _ (by omega), on a4 (by omega)]; exact x3 hg3
            · rw [PU.o a6 (by decide), a5.2.2.2 84 _ (by omega)]; exact x4 hg4
            · rw [o6 _ (by omega) (by omega) (by omega) (by omega)]; exact y1
            · rw [o6 _ (by omega) (by omega) (by omega) (by omega)]; exact y2 i hi
            · rw [o6 2 (by omega) (by omega) (by omega) (by omega), o1 2 (fun q => by unfold PS at q; omega)]
          · rw [if_neg hk]
            exact ⟨M6, 1, rfl, A6, h6.2.2.1, Or.inr ⟨rfl, by rw [c3]; exact hk⟩⟩
theorem m_85 {M : MM} {sp dr ns i : Nat} (L : LAY M sp dr) (hs : ns < 4) (g : gI M 84 1 = nI ns) : j_X7_readsShape_85 M 81 (nI ns) (nI i) = some (1, sI (sI M 84 (84 + ns) (nI i)) 84 1 (nI (ns + 1))) := by
  have L2 : LAY (sI M 84 (84 + ns) (nI i)) sp dr := L.of rfl (fun _ _ => rfl)
  have g2 : gI (sI M 84 (84 + ns) (nI i)) 84 1 = nI ns := by rw [gp_oth (by omega)]; exact g
  unfold j_X7_readsShape_85
  rw [r4 L, Option.bind_some, show (84 : Int32) + nI ns = nI (84 + ns) from nI_add 84 ns, w84 L (by omega), Option.bind_some, r4 L2, Option.bind_some, show (1 : Int32) = nI 1 from rfl, a84 L2 (by decide), Option.bind_some, g2, nI_add, w84 L2 (by decide), Option.bind_some]
/-- a shape's end -/
theorem m_shF {M Mx : MM} {T : TG} {sp dr n p s e k i : Nat} {B : Nat → Nat} {ks : Nat → Nat} (hM : MTg M 84 T) (hT : TOK T) (hs : tNs T < 4) (L : LAY Mx sp dr) (A : AgP M Mx PR) (h : TKN Mx s e k) (t : TOKN B n p s e k) (hi : i ≤ 3) (g1 : gI Mx 84 1 = nI (tNs T)) (h0 : ∀ j, j < 110 → ¬ j = 1 → ¬ (88 + 3 * tNs T ≤ j ∧ j < 91 + 3 * tNs T) → gI Mx 84 j = gI M 84 j) (g3 : ∀ j, j < i → gI Mx 84 (88 + 3 * tNs T + j) = nI (ks j)) : rdR n M (j_X7_readsShape_85 Mx 81 (nI (tNs T)) (nI i)) (if k = 3 then .inr (addS T i ks, e) else .inl s) := by
  rw [m_85 L hs g1]
  have hk := tok_k t
  have hF : TKN (sI (sI Mx 84 (84 + tNs T) (nI i)) 84 1 (nI (tNs T + 1))) s e k := h.c84.c84
  have AF : AgP M (sI (sI Mx 84 (84 + tNs T) (nI i)) 84 1 (nI (tNs T + 1))) PR := (A.sI (Or.inr rfl)).sI (Or.inr rfl)
  have c3 : (gI (sI (sI Mx 84 (84 + tNs T) (nI i)) 84 1 (nI (tNs T + 1))) 81 14 = 3) = (k = 3) := by rw [hF.2.1]; exact nn_eq (b := 3) (by omega) (by decide)
  by_cases h3 : k = 3
  · rw [if_pos h3]
    refine ⟨_, rfl, AF, by rw [c3]; exact h3, hF.1, (tok_e t).2, m_addS hM hT hs hi (fun j hj b1 b2 b3 => ?_) gp_same ?_ (fun j hj => ?_), ?_⟩
    · rw [gp_oth b1, gp_oth b2, h0 j hj b1 b3]
    · rw [gp_oth (by omega), gp_same]
    · rw [gp_oth (by omega), gp_oth (by omega), g3 j hj]
    · rw [gp_oth (by decide), gp_oth (by omega), h0 2 (by decide) (by decide) (by omega)]
  · rw [if_neg h3]
    exact ⟨_, 1, rfl, AF, hF.2.2.1, Or.inr ⟨rfl, by rw [c3]; exact h3⟩⟩
theorem m_shI {M : MM} {sp dr n p s e k s' e' k' ns i : Nat} {B : Nat → Nat} (L : LAY M sp dr) (X : RX M B n) (hn : n ≤ 200) (h : TKN M s e k) (t : TOKN B n p s e k) (t' : TOKN B n e s' e' k') (hs : ns < 4) (hi : i < 3) : (fig B s e k 2 = false → (k = 2 ∧ z_X7_readsShape_34 M 81 (nI ns) (nI i) = some (.inl (0, M))) ∨ (¬ k = 2 ∧ z_X7_readsShape_34 M 81 (nI ns) (nI i) = (j_X7_readsShape_85 M 81 (nI ns) (nI i)).map .inl)) ∧ (fig B s e k 2 = true → ∃ M', z_X7_readsShape_34 M 81 (nI ns) (nI i) = some (.inr (nI (i + 1), M')) ∧ AgP M M' (fun p j => PU p j ∨ (p = 84 ∧ j = 88 + 3 * ns + i)) ∧ TKN M' s' e' k' ∧ gI M' 84 (88 + 3 * ns + i) = nI (B s - 48)) := by
  have hk := tok_k t
  have hf := m_figure (m := 2) L X hn t h (by decide)
  have c3 : ¬ (3 : Int32) ≤ nI i := fun q => by have := (nI_leI (a := 3) (by decide) (by omega)).mp q; omega
  have c2 : (nI k = 2) = (k = 2) := nn_eq (b := 2) (by omega) (by decide)
  constructor
  · intro hfig
    by_cases k2 : k = 2
    · refine Or.inl ⟨k2, ?_⟩
      unfold z_X7_readsShape_34
      rw [if_neg c3, mf L, Option.bind_some, h.2.1, if_pos (by rw [c2]; exact k2), show (2 : Int32) = nI 2 from rfl, hf, Option.bind_some, hfig, show (if false = true then nI (B s - 48) else (-9 : Int32)) = -9 from rfl, if_pos rfl]
    · refine Or.inr ⟨k2, ?_⟩
      unfold z_X7_readsShape_34
      rw [if_neg c3, mf L, Option.bind_some, h.2.1, if_neg (by rw [c2]; exact k2)]
  · intro hfig
    obtain ⟨k2, q1, q2⟩ := of_decide_eq_true hfig
    have a1 : AgP M (sI M 84 (88 + 3 * ns + i) (nI (B s - 48))) (fun p j => p = 84 ∧ j = 88 + 3 * ns + i) := AgP.rf.sI ⟨rfl, rfl⟩
    have y1 : gI (sI M 84 (88 + 3 * ns + i) (nI (B s - 48))) 84 (88 + 3 * ns + i) = nI (B s - 48) := gp_same
    have h1 : TKN (sI M 84 (88 + 3 * ns + i) (nI (B s - 48))) s e k := h.c84
    have L1 : LAY (sI M 84 (88 + 3 * ns + i) (nI (B s - 48))) sp dr := L.agp a1
    have X1 : RX (sI M 84 (88 + 3 * ns + i) (nI (B s - 48))) B n := X.pr (a1.mono (fun p j h => Or.inr h.1))
    obtain ⟨M2, f2, a2, h2⟩ := m_tok L1 X1 hn (tok_e t).2 h1.1 t'
    have e3 : ((88 : Int32) + 3 * nI ns) + nI i = nI (88 + 3 * ns + i) := by
      rw [show (3 : Int32) = nI 3 from rfl, show (88 : Int32) = nI 88 from rfl, nI_mul, nI_add, nI_add]
    refine ⟨M2, ?_, (a1.mono (fun p j h => Or.inr h)).tr (a2.mono (fun p j h => Or.inl h)), h2, by rw [PU.o a2 (by decide)]; exact y1⟩
    unfold z_X7_readsShape_34
    rw [if_neg c3, mf L, Option.bind_some, h.2.1, if_pos (by rw [c2]; exact k2), show (2 : Int32) = nI 2 from rfl, hf, Option.bind_some, hfig, if_pos rfl, if_neg (nI_nm (by omega) (by decide)), r4 L, Option.bind_some, e3, w84 L (by omega), Option.bind_some, f2, Option.bind_some, if_pos a2.1, nI_1]
theorem m_readsShape {sp dr n p : Nat} {B : Nat → Nat} {M : MM} {T : TG} (L : LAY M sp dr) (X : RX M B n) (hn : n ≤ 200) (hp : p ≤ n) (g : gI M 81 13 = nI p) (hM : MTg M 84 T) (hT : TOK T) (hs : tNs T < 4) : rdR n M (f_X7_readsShape M 81) (pShape B n T p) := by
  have c4 : ¬ nI (tNs T) = 4 := fun q => by have := (nI_eq (b := 4) (by omega) (by decide)).mp q; omega
  have bt1 : ¬ b2i true = 0 := by decide
  have e88 : (88 : Int32) + 3 * nI (tNs T) = nI (88 + 3 * tNs T) := by
    rw [show (3 : Int32) = nI 3 from rfl, show (88 : Int32) = nI 88 from rfl, nI_mul, nI_add]
  unfold f_X7_readsShape
  rw [if_pos (r81 L), r4 L, Option.bind_some, show (1 : Int32) = nI 1 from rfl, a84 L (by decide), Option.bind_some, hM.2.1, if_neg c4, e88]
  unfold pShape
  have t1 := tk_s (B := B) (n := n) hp
  generalize tk B n p = q1 at t1
  obtain ⟨s1, e1, k1⟩ := q1
  dsimp only at t1 ⊢
  have he1 := (tok_e t1).2
  obtain ⟨M1, f1, a1, h1, x1⟩ := m_readsNumber (m := 2) (pl := 88 + 3 * tNs T) L X hn hp g t1 (by decide) (by omega)
  have A1 : AgP M M1 PR := a1.mono (fun p j h => h.imp id (fun q => q.1))
  rw [show (2 : Int32) = nI 2 from rfl, f1, Option.bind_some, if_pos a1.1]
  cases hg1 : fig B s1 e1 k1 2 with
  | false =>
    rw [if_pos rfl]
    exact ⟨M1, 0, by rw [if_pos (show (b2i false, M1).1 = 0 from rfl)], A1, h1.2.2.1, Or.inl rfl⟩
  | true =>
    rw [if_neg (show ¬ (b2i true, M1).1 = 0 from bt1), if_neg (show ¬ true = false by decide)]
    have L1 := L.agp A1
    have X1 := X.pr A1
    have t2 := tk_s (B := B) (n := n) he1
    generalize tk B n e1 = q2 at t2
    obtain ⟨s2, e2, k2⟩ := q2
    dsimp only at t2 ⊢
    have he2 := (tok_e t2).2
    obtain ⟨M2, f2, a2, h2⟩ := m_tok L1 X1 hn he1 h1.1 t2
    have A2 : AgP M M2 PR := A1.tr (a2.mono (fun p j h => Or.inl h))
    have L2 := L.agp A2
    have X2 := X.pr A2
    rw [f2, Option.bind_some, if_pos a2.1]
    have on : ∀ {N N' : MM} {pl j : Nat}, AgP N N' (fun p j => PU p j ∨ (p = 84 ∧ j = pl)) → ¬ j = pl → gI N' 84 j = gI N 84 j := fun a hj => a.2.2.2 84 _ (fun q => by
      rcases q with q | q
      · exact absurd q.1 (by decide)
      · exact hj q.2)
    have o2 : ∀ j, ¬ j = 88 + 3 * tNs T → gI M2 84 j = gI M 84 j := fun j hj => by rw [PU.o a2 (by decide), on a1 hj]
    have y2 : gI M2 84 (88 + 3 * tNs T + 0) = nI (B s1 - 48) := by rw [PU.o a2 (by decide)]; exact x1 hg1
    have t3 := tk_s (B := B) (n := n) he2
    obtain ⟨w2, w3⟩ := m_shI (i := 1) (ns := tNs T) L2 X2 hn h2 t2 t3 hs (by decide)
    cases hg2 : fig B s2 e2 k2 2 with
    | false =>
      rw [if_pos rfl]
      rcases w2 hg2 with ⟨kk, z⟩ | ⟨kk, z⟩
      · rw [show lp (fun t => z_X7_readsShape_34 t.2 81 (nI (tNs T)) t.1) FU (nI 1, M2) = some (0, M2) from lp_l (n := 3999) z, if_neg (by omega)]
        exact ⟨M2, 0, rfl, A2, h2.2.2.1, Or.inl rfl⟩
      · rw [show lp (fun t => z_X7_readsShape_34 t.2 81 (nI (tNs T)) t.1) FU (nI 1, M2) = j_X7_readsShape_85 M2 81 (nI (tNs T)) (nI 1) from lp_m (n := 3999) z]
        refine m_shF hM hT hs L2 A2 h2 t2 (by decide) (by rw [o2 1 (by omega)]; exact hM.2.1) (fun j _ _ hj => o2 j (by omega)) (fun j hj => ?_)
        obtain rfl : j = 0 := by omega
        exact y2
    | true =>
      rw [if_neg (show ¬ true = false by decide)]
      obtain ⟨M3, z3, a3, h3, y3⟩ := w3 hg2
      have A3 : AgP M M3 PR := A2.tr (a3.mono (fun p j h => h.imp id (fun q => q.1)))
      have L3 := L.agp A3
      have X3 := X.pr A3
      generalize tk B n e2 = q3 at t3 h3
      obtain ⟨s3, e3, k3⟩ := q3
      dsimp only at t3 h3 ⊢
      have he3 := (tok_e t3).2
      have o3 : ∀ j, ¬ j = 88 + 3 * tNs T → ¬ j = 88 + 3 * tNs T + 1 → gI M3 84 j = gI M 84 j := fun j hj hj2 => by rw [on a3 hj2, o2 j hj]
      have y3a : gI M3 84 (88 + 3 * tNs T + 0) = nI (B s1 - 48) := by rw [on a3 (by omega)]; exact y2
      have t4 := tk_s (B := B) (n := n) he3
      obtain ⟨v2, v3⟩ := m_shI (i := 2) (ns := tNs T) L3 X3 hn h3 t3 t4 hs (by decide)
      cases hg3 : fig B s3 e3 k3 2 with
      | false =>
        rw [if_pos rfl]
        rcases v2 hg3 with ⟨kk, z⟩ | ⟨kk, z⟩
        · rw [show lp (fun t => z_X7_readsShape_34 t.2 81 (nI (tNs T)) t.1) FU (nI 1, M2) = some (0, M3) from lp_r (n := 3999) z3 (lp_l (n := 3998) z), if_neg (by omega)]
          exact ⟨M3, 0, rfl, A3, h3.2.2.1, Or.inl rfl⟩
        · rw [show lp (fun t => z_X7_readsShape_34 t.2 81 (nI (tNs T)) t.1) FU (nI 1, M2) = j_X7_readsShape_85 M3 81 (nI (tNs T)) (nI 2) from (lp_e (n := 3999) z3).trans (lp_m (n := 3998) z)]
          refine m_shF hM hT hs L3 A3 h3 t3 (by decide) (by rw [o3 1 (by omega) (by omega)]; exact hM.2.1) (fun j _ _ hj => o3 j (by omega) (by omega)) (fun j hj => ?_)
          rcases (show j = 0 ∨ j = 1 by omega) with rfl | rfl
          · exact y3a
          · exact y3
      | true =>
        rw [if_neg (show ¬ true = false by decide)]
        obtain ⟨M4, z4, a4, h4, y4⟩ := v3 hg3
        have A4 : AgP M M4 PR := A3.tr (a4.mono (fun p j h => h.imp id (fun q => q.1)))
        have L4 := L.agp A4
        generalize tk B n e3 = q4 at t4 h4
        obtain ⟨s4, e4, k4⟩ := q4
        dsimp only at t4 h4 ⊢
        have zE : z_X7_readsShape_34 M4 81 (nI (tNs T)) (nI 3) = (j_X7_readsShape_85 M4 81 (nI (tNs T)) (nI 3)).map .inl := by
          unfold z_X7_readsShape_34
          rw [if_pos (by decide)]
        rw [show lp (fun t => z_X7_readsShape_34 t.2 81 (nI (tNs T)) t.1) FU (nI 1, M2) = j_X7_readsShape_85 M4 81 (nI (tNs T)) (nI 3) from (lp_e (n := 3999) z3).trans ((lp_e (n := 3998) z4).trans (lp_m (n := 3997) zE))]
        refine m_shF hM hT hs L4 A4 h4 t4 (by decide) (by rw [on a4 (by omega), o3 1 (by omega) (by omega)]; exact hM.2.1) (fun j _ _ hj => by rw [on a4 (by omega), o3 j (by omega) (by omega)]) (fun j hj => ?_)
        rcases (show j = 0 ∨ j = 1 ∨ j = 2 by omega) with rfl | rfl | rfl
        · rw [on a4 (by omega)]; exact y3a
        · rw [on a4 (by omega)]; exact y3
        · exact y4
