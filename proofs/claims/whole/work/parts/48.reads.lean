/-! PURE: the whole text, reference side -/
def rdB (M : MM) (o : Option (Int32 × MM)) : Nat ⊕ TG → Prop
  | .inl s => ∃ M', o = some (0, M') ∧ AgP M M' PR ∧ gI M' 81 15 = nI s
  | .inr T' => ∃ M', o = some (1, M') ∧ AgP M M' PR ∧ MTg M' 84 T' ∧ gI M' 84 2 = nI (tNw T' + tNs T')
theorem rdB.tr {M M2 : MM} {o : Option (Int32 × MM)} {r : Nat ⊕ TG} (a : AgP M M2 PR) (h : rdB M2 o r) : rdB M o r := by
  cases r with
  | inl s =>
    obtain ⟨M', h1, h2, h3⟩ := h
    exact ⟨M', h1, a.tr h2, h3⟩
  | inr T' =>
    obtain ⟨M', h1, h2, h3⟩ := h
    exact ⟨M', h1, a.tr h2, h3⟩
/-- what follows an item that stands -/
theorem m_70 {sp dr n e N : Nat} {B : Nat → Nat} {M : MM} {v : Int32} (L : LAY M sp dr) (X : RX M B n) (hn : n ≤ 200) (he : e ≤ n) (hv : ¬ v = 0) (g14 : gI M 81 14 = 3) (g13 : gI M 81 13 = nI e) (g2 : gI M 84 2 = nI N) : ∃ M', j_X7_reads_70 M 81 v = some (.inr M') ∧ AgP M M' (fun p j => PU p j ∨ (p = 84 ∧ j = 2)) ∧ TKN M' (tk B n e).1 (tk B n e).2.1 (tk B n e).2.2 ∧ gI M' 84 2 = nI (N + 1) := by
  have a1 : AgP M (sI M 84 2 (nI (N + 1))) (fun p j => p = 84 ∧ j = 2) := AgP.rf.sI ⟨rfl, rfl⟩
  have y1 : gI (sI M 84 2 (nI (N + 1))) 84 2 = nI (N + 1) := gp_same
  have L1 : LAY (sI M 84 2 (nI (N + 1))) sp dr := L.agp a1
  have X1 : RX (sI M 84 2 (nI (N + 1))) B n := X.pr (a1.mono (fun p j h => Or.inr h.1))
  obtain ⟨M2, f2, a2, h2⟩ := m_tok L1 X1 hn he (by rw [gp_cell (by decide)]; exact g13) (tk_s he)
  refine ⟨M2, ?_, (a1.mono (fun p j h => Or.inr h)).tr (a2.mono (fun p j h => Or.inl h)), h2, by rw [PU.o a2 (by decide)]; exact y1⟩
  unfold j_X7_reads_70
  rw [if_neg hv, mf L, Option.bind_some, g14, if_pos rfl, r4 L, Option.bind_some, show (2 : Int32) = nI 2 from rfl, a84 L (by decide), Option.bind_some, g2, nI_1, w84 L (by decide), Option.bind_some, f2, Option.bind_some, if_pos a2.1]
theorem m_70b {sp dr : Nat} {M : MM} {v : Int32} (L : LAY M sp dr) (h : v = 0 ∨ (v = 1 ∧ ¬ gI M 81 14 = 3)) : j_X7_reads_70 M 81 v = some (.inl (0, M)) := by
  unfold j_X7_reads_70
  rcases h with h | ⟨h, h2⟩
  · rw [if_pos h]
  · rw [if_neg (by rw [h]; decide), mf L, Option.bind_some, if_neg h2]
theorem m_all {sp dr n : Nat} {B : Nat → Nat} (hn : n ≤ 200) : ∀ f fuel M T p, f + (tNw T + tNs T) = 14 → f < fuel → LAY M sp dr → RX M B n → p ≤ n → TKN M (tk B n p).1 (tk B n p).2.1 (tk B n p).2.2 → MTg M 84 T → gI M 84 2 = nI (tNw T + tNs T) → TOK T → rdB M (lp (fun t => z_X7_reads_30 t 81) fuel M) (pAll B n f T p) := by
  intro f
  induction f with
  | zero =>
    intro fuel M T p hf hfu L X hp h hM g2 hT
    have := hT.1
    have := hT.2.1
    omega
  | succ f ih =>
    intro fuel M T p hf hfu L X hp h hM g2 hT
    obtain ⟨fuel, rfl⟩ : ∃ m, fuel = m + 1 := ⟨fuel - 1, by omega⟩
    unfold pAll
    have t1 := tk_s (B := B) (n := n) hp
    generalize tk B n p = q1 at t1 h
    obtain ⟨s, e, k⟩ := q1
    dsimp only at t1 h ⊢
    have he := (tok_e t1).2
    have hk := tok_k t1
    have c0 : (nI k = 0) = (k = 0) := nn_eq (b := 0) (by omega) (by decide)
    have hv := m_verb L X hn t1 h
    have hz : z_X7_reads_30 M 81 = if k = 0 then some (.inl (1, M)) else if vrb B s e k = 0 then ((f_X7_readsWord M 81).bind fun v4 => if v4.2.1 = M.1 then (j_X7_reads_70 v4.2 81 v4.1) else none) else (if vrb B s e k = 1 then ((f_X7_readsShape M 81).bind fun v3 => if v3.2.1 = M.1 then (if v3.1 = 0 then (j_X7_reads_69 v3.2 81) else (j_X7_reads_70 v3.2 81 1)) else none) else (j_X7_reads_69 M 81)) := by
      unfold z_X7_reads_30
      rw [mf L, Option.bind_some, h.2.1, hv, Option.bind_some]
      simp only [c0]
    have e69 : ∀ {M' : MM}, LAY M' sp dr → j_X7_reads_69 M' 81 = some (.inl (0, M')) := by
      intro M' L'
      unfold j_X7_reads_69
      exact m_70b L' (Or.inl rfl)
    have hbad : z_X7_reads_30 M 81 = some (.inl (0, M)) → rdB M (lp (fun t => z_X7_reads_30 t 81) (fuel + 1) M) (.inl s) := by
      intro q
      exact ⟨M, lp_l q, AgP.rf, h.2.2.1⟩
    by_cases k0 : k = 0
    · rw [if_pos k0]
      rw [if_pos k0] at hz
      exact ⟨M, lp_l hz, AgP.rf, hM, g2⟩
    · rw [if_neg k0]
      rw [if_neg k0] at hz
      by_cases h5 : k = 1 ∧ isNm B s e 0 = true
      · rw [if_pos h5]
        have hv0 : vrb B s e k = 0 := if_pos h5
        rw [if_pos hv0] at hz
        by_cases hw9 : tNw T = 9
        · rw [if_pos hw9]
          refine hbad ?_
          rw [hz]
          have : f_X7_readsWord M 81 = some (0, M) := by
            unfold f_X7_readsWord
            rw [if_pos (r81 L), r4 L, Option.bind_some, ← n00, a84 L (by decide), Option.bind_some, hM.1, hw9, if_pos (by decide)]
          rw [this, Option.bind_some, if_pos rfl]
          exact m_70b L (Or.inl rfl)
        · rw [if_neg hw9]
          have hw8 : tNw T < 9 := by have := hT.1; omega
          have hrd := m_readsWord L X hn he h.1 hM hT hw8
          cases hpw : pWord B n T e with
          | inl s' =>
            rw [hpw] at hrd
            obtain ⟨M2, v, f2, a2, g15, hvv⟩ := hrd
            rw [f2, Option.bind_some, if_pos a2.1, m_70b (L.agp a2) hvv] at hz
            exact ⟨M2, lp_l hz, a2, g15⟩
          | inr r =>
            obtain ⟨T', e'⟩ := r
            rw [hpw] at hrd
            obtain ⟨M2, f2, a2, g14, g13, he', hM', g22⟩ := hrd
            obtain ⟨hT', q1, q2⟩ := pWord_T he hT hw8 hpw
            obtain ⟨M3, f3, a3, h3, g23⟩ := m_70 (v := 1) (L.agp a2) (X.pr a2) hn he' (by decide) g14 g13 (g22.trans g2)
            have A3 : AgP M M3 PR := a2.tr (a3.mono (fun p j h => h.imp id (fun q => q.1)))
            rw [f2, Option.bind_some, if_pos a2.1, f3] at hz
            rw [lp_e (t := M3) hz]
            refine rdB.tr A3 (ih fuel M3 T' e' (by omega) (by omega) (L.agp A3) (X.pr A3) he' h3 (hM'.at hT' (fun j hj hj2 => a3.2.2.2 84 j (fun q => by
              rcases q with q | q
              · exact absurd q.1 (by decide)
              · exact hj2 q.2))) (by rw [g23]; congr 1; omega) hT')
      · rw [if_neg h5]
        have hv0 : ¬ vrb B s e k = 0 := by
          unfold vrb
          rw [if_neg h5]
          split <;> decide
        rw [if_neg hv0] at hz
        by_cases h6 : k = 1 ∧ isNm B s e 1 = true
        · rw [if_pos h6]
          have hv1 : vrb B s e k = 1 := by
            unfold vrb
            rw [if_neg h5, if_pos h6]
          rw [if_pos hv1] at hz
          by_cases hs4 : tNs T = 4
          · rw [if_pos hs4]
            refine hbad ?_
            rw [hz]
            have : f_X7_readsShape M 81 = some (0, M) := by
              unfold f_X7_readsShape
              rw [if_pos (r81 L), r4 L, Option.bind_some, show (1 : Int32) = nI 1 from rfl, a84 L (by decide), Option.bind_some, hM.2.1, hs4, if_pos (by decide)]
            rw [this, Option.bind_some, if_pos rfl, if_pos rfl]
            exact e69 L
          · rw [if_neg hs4]
            have hs3 : tNs T < 4 := by have := hT.2.1; omega
            have hrd := m_readsShape L X hn he h.1 hM hT hs3
            cases hpw : pShape B n T e with
            | inl s' =>
              rw [hpw] at hrd
              obtain ⟨M2, v, f2, a2, g15, hvv⟩ := hrd
              rw [f2, Option.bind_some, if_pos a2.1] at hz
              by_cases hv2 : v = 0
              · rw [if_pos (show ((v, M2) : Int32 × MM).1 = 0 from hv2), e69 (L.agp a2)] at hz
                exact ⟨M2, lp_l hz, a2, g15⟩
              · have hv3 := hvv.resolve_left hv2
                rw [if_neg (show ¬ ((v, M2) : Int32 × MM).1 = 0 from hv2), m_70b (L.agp a2) (Or.inr ⟨rfl, hv3.2⟩)] at hz
                exact ⟨M2, lp_l hz, a2, g15⟩
            | inr r =>
              obtain ⟨T', e'⟩ := r
              rw [hpw] at hrd
              obtain ⟨M2, f2, a2, g14, g13, he', hM', g22⟩ := hrd
              obtain ⟨hT', q1, q2⟩ := pShape_T hT hs3 hpw
              obtain ⟨M3, f3, a3, h3, g23⟩ := m_70 (v := 1) (L.agp a2) (X.pr a2) hn he' (by decide) g14 g13 (g22.trans g2)
              have A3 : AgP M M3 PR := a2.tr (a3.mono (fun p j h => h.imp id (fun q => q.1)))
              rw [f2, Option.bind_some, if_pos a2.1, if_neg (show ¬ ((1 : Int32), M2).1 = 0 by show ¬ (1 : Int32) = 0; decide), f3] at hz
              rw [lp_e (t := M3) hz]
              refine rdB.tr A3 (ih fuel M3 T' e' (by omega) (by omega) (L.agp A3) (X.pr A3) he' h3 (hM'.at hT' (fun j hj hj2 => a3.2.2.2 84 j (fun q => by
                rcases q with q | q
                · exact absurd q.1 (by decide)
                · exact hj2 q.2))) (by rw [g23]; congr 1; omega) hT')
        · rw [if_neg h6]
          refine hbad ?_
          have hv1 : ¬ vrb B s e k = 1 := by
            unfold vrb
            rw [if_neg h5, if_neg h6]
            decide
          rw [if_neg hv1, e69 L] at hz
          exact hz
theorem m_reads {sp dr n : Nat} {B : Nat → Nat} {M : MM} (L : LAY M sp dr) (X : RX M B n) (hn : n ≤ 200) : rdB M (f_X7_reads M 81) (pAll B n 14 T0 0) := by
  have key : ∀ d fuel i M, i + d = 110 → d < fuel → LAY M sp dr → (∀ j, j < i → gI M 84 j = 0) → ∃ M', AgP M M' (fun p _ => p = 84) ∧ (∀ j, j < 110 → gI M' 84 j = 0) ∧ lp (fun t => z_X7_reads_2 t.2 81 t.1) fuel (nI i, M) = ((wfI M' 81 7 13 0).bind fun M1 => (f_X7_token M1 81).bind fun M2 => if M2.1 = M1.1 then (lp (fun t => z_X7_reads_30 t 81) FU (M2)) else none) := by
    intro d
    induction d with
    | zero =>
      intro fuel i M hi hf L h
      obtain ⟨fuel, rfl⟩ : ∃ m, fuel = m + 1 := ⟨fuel - 1, by omega⟩
      obtain rfl : i = 110 := by omega
      refine ⟨M, AgP.rf, h, lp_m ?_⟩
      show z_X7_reads_2 M 81 (nI 110) = _
      unfold z_X7_reads_2
      rw [if_pos (by decide)]
    | succ d ih =>
      intro fuel i M hi hf L h
      obtain ⟨fuel, rfl⟩ : ∃ m, fuel = m + 1 := ⟨fuel - 1, by omega⟩
      have a : AgP M (sI M 84 i 0) (fun p _ => p = 84) := AgP.rf.sI rfl
      obtain ⟨M', a', h', f'⟩ := ih fuel (i + 1) (sI M 84 i 0) (by omega) (by omega) (L.agp a) (fun j hj => by
        by_cases hji : j = i
        · rw [hji, gp_same]
        · rw [gp_oth hji]
          exact h j (by omega))
      refine ⟨M', a.tr a', h', ?_⟩
      rw [lp_e (t := (nI (i + 1), sI M 84 i 0))]
      · exact f'
      · unfold z_X7_reads_2
        rw [if_neg (fun q => by have := (nI_leI (a := 110) (by decide) (by omega)).mp q; omega), r4 L, Option.bind_some, w84 L (by omega), Option.bind_some, nI_1]
  obtain ⟨M1, a1, h1, f1⟩ := key 110 FU 0 M (by omega) (show 110 < 4000 by omega) L (fun j hj => absurd hj (by omega))
  have A1 : AgP M M1 PR := a1.mono (fun p j h => Or.inr h)
  have L1 := L.agp A1
  have X1 := X.pr A1
  have a2 : AgP M1 (sI M1 81 13 0) PU := AgP.rf.sI ⟨rfl, by decide, by decide⟩
  have L2 := L1.agp a2
  have X2 := X1.pu a2
  obtain ⟨M3, f3, a3, h3⟩ := m_tok (p := 0) L2 X2 hn (Nat.zero_le _) (by rw [gp_same]; rfl) (tk_s (Nat.zero_le n))
  have A3 : AgP M M3 PR := (A1.tr (a2.mono (fun _ _ h => Or.inl h))).tr (a3.mono (fun _ _ h => Or.inl h))
  have z3 : ∀ j, j < 110 → gI M3 84 j = 0 := fun j hj => by rw [PU.o a3 (by decide), PU.o a2 (by decide)]; exact h1 j hj
  unfold f_X7_reads
  rw [n00] at f1
  rw [if_pos (r81 L), f1, wmf L1, Option.bind_some, f3, Option.bind_some, if_pos a3.1]
  exact rdB.tr A3 (m_all hn 14 FU M3 T0 0 rfl (show 14 < 4000 by decide) (L.agp A3) (X.pr A3) (Nat.zero_le _) h3 ⟨z3 0 (by decide), z3 1 (by decide), fun w hw => absurd hw (Nat.not_lt_zero w), fun s hs => absurd hs (Nat.not_lt_zero s)⟩ (z3 2 (by decide)) T0_ok)
