/-! PURE: the whole text, class side -/
noncomputable def pAll (B : Nat → Nat) (n : Nat) : Nat → TG → Nat → Nat ⊕ TG
  | 0, _, _ => .inl 0
  | f + 1, T, p =>
    let a := tk B n p
    if a.2.2 = 0 then .inr T
    else if a.2.2 = 1 ∧ isNm B a.1 a.2.1 0 = true then
      (if tNw T = 9 then .inl a.1 else match pWord B n T a.2.1 with | .inl s => .inl s | .inr r => pAll B n f r.1 r.2)
    else if a.2.2 = 1 ∧ isNm B a.1 a.2.1 1 = true then
      (if tNs T = 4 then .inl a.1 else match pShape B n T a.2.1 with | .inl s => .inl s | .inr r => pAll B n f r.1 r.2)
    else .inl a.1
theorem sgT_b {B : Nat → Nat} {n p s e k : Nat} (t : TOKN B n p s e k) (h : sgT B s e k = true) : s < e ∧ e ≤ s + 5 ∧ ∀ i, s ≤ i → i < e → 97 ≤ B i ∧ B i ≤ 104 := by
  obtain ⟨h1, h2, h3⟩ := of_decide_eq_true h
  have hl := tok_lt t (by omega)
  refine ⟨hl.2.1, h3, fun i a b => ⟨?_, sgn_all.mp h2 i a b⟩⟩
  rcases t.2.2.2 with ⟨-, -, h⟩ | ⟨_, _, _, _, _, h6, _⟩
  · omega
  · have := (h6 (Or.inl h1)).1 i a b
    rw [h1] at this
    exact (kof1.mp this).1
theorem fig_b {B : Nat → Nat} {s e k m : Nat} (h : fig B s e k m = true) : B s - 48 ≤ m := by
  obtain ⟨h1, h2, h3⟩ := of_decide_eq_true h
  omega
theorem pWord_T {B : Nat → Nat} {n p e : Nat} {T T' : TG} (hp : p ≤ n) (hT : TOK T) (hw : tNw T < 9) (h : pWord B n T p = .inr (T', e)) : TOK T' ∧ tNw T' = tNw T + 1 ∧ tNs T' = tNs T := by
  unfold pWord at h
  have t1 := tk_s (B := B) (n := n) hp
  generalize tk B n p = q1 at t1 h
  obtain ⟨s1, e1, k1⟩ := q1
  dsimp only at t1 h
  cases hg1 : sgT B s1 e1 k1 with
  | false => rw [hg1, if_pos rfl] at h; cases h
  | true =>
    rw [hg1, if_neg (by decide)] at h
    generalize tk B n e1 = q2 at h
    obtain ⟨s2, e2, k2⟩ := q2
    dsimp only at h
    cases hg2 : fig B s2 e2 k2 2 with
    | false => rw [hg2, if_pos rfl] at h; cases h
    | true =>
      rw [hg2, if_neg (by decide)] at h
      generalize tk B n e2 = q3 at h
      obtain ⟨s3, e3, k3⟩ := q3
      dsimp only at h
      cases hg3 : fig B s3 e3 k3 9 with
      | false => rw [hg3, if_pos rfl] at h; cases h
      | true =>
        rw [hg3, if_neg (by decide)] at h
        generalize tk B n e3 = q4 at h
        obtain ⟨s4, e4, k4⟩ := q4
        dsimp only at h
        cases hg4 : fig B s4 e4 k4 9 with
        | false => rw [hg4, if_pos rfl] at h; cases h
        | true =>
          rw [hg4, if_neg (by decide)] at h
          generalize tk B n e4 = q5 at h
          obtain ⟨s5, e5, k5⟩ := q5
          dsimp only at h
          by_cases h5 : k5 = 3
          · rw [if_pos h5] at h
            injection h with h
            injection h with h h'
            subst h
            refine ⟨⟨by show tNw T + 1 ≤ 9; omega, hT.2.1, fun w hw2 => ?_, hT.2.2.2⟩, rfl, rfl⟩
            have b1 := sgT_b t1 hg1
            have b2 := fig_b hg2
            have b3 := fig_b hg3
            have b4 := fig_b hg4
            by_cases hwe : w = tNw T
            · have e1' : tWl (addW T (e1 - s1) (fun i => B (s1 + i) - 97) (B s2 - 48) (B s3 - 48) (B s4 - 48)) w = e1 - s1 := if_pos hwe
              have e2' : tKn (addW T (e1 - s1) (fun i => B (s1 + i) - 97) (B s2 - 48) (B s3 - 48) (B s4 - 48)) w = B s2 - 48 := if_pos hwe
              have e3' : tOw (addW T (e1 - s1) (fun i => B (s1 + i) - 97) (B s2 - 48) (B s3 - 48) (B s4 - 48)) w = B s3 - 48 := if_pos hwe
              have e4' : tOt (addW T (e1 - s1) (fun i => B (s1 + i) - 97) (B s2 - 48) (B s3 - 48) (B s4 - 48)) w = B s4 - 48 := if_pos hwe
              have e5' : ∀ i, tSg (addW T (e1 - s1) (fun i => B (s1 + i) - 97) (B s2 - 48) (B s3 - 48) (B s4 - 48)) w i = B (s1 + i) - 97 := fun i => if_pos hwe
              rw [e1', e2', e3', e4']
              refine ⟨by omega, by omega, fun i hi => ?_, by omega, b3, b4⟩
              rw [e5']
              have := b1.2.2 (s1 + i) (by omega) (by omega)
              omega
            · have hw3 : w < tNw T := by
                have : w < tNw T + 1 := hw2
                omega
              have e1' : tWl (addW T (e1 - s1) (fun i => B (s1 + i) - 97) (B s2 - 48) (B s3 - 48) (B s4 - 48)) w = tWl T w := if_neg hwe
              have e2' : tKn (addW T (e1 - s1) (fun i => B (s1 + i) - 97) (B s2 - 48) (B s3 - 48) (B s4 - 48)) w = tKn T w := if_neg hwe
              have e3' : tOw (addW T (e1 - s1) (fun i => B (s1 + i) - 97) (B s2 - 48) (B s3 - 48) (B s4 - 48)) w = tOw T w := if_neg hwe
              have e4' : tOt (addW T (e1 - s1) (fun i => B (s1 + i) - 97) (B s2 - 48) (B s3 - 48) (B s4 - 48)) w = tOt T w := if_neg hwe
              have e5' : ∀ i, tSg (addW T (e1 - s1) (fun i => B (s1 + i) - 97) (B s2 - 48) (B s3 - 48) (B s4 - 48)) w i = tSg T w i := fun i => if_neg hwe
              rw [e1', e2', e3', e4']
              obtain ⟨o1, o2, o3, o4, o5, o6⟩ := hT.2.2.1 w hw3
              exact ⟨o1, o2, fun i hi => by rw [e5']; exact o3 i hi, o4, o5, o6⟩
          · rw [if_neg h5] at h
            cases h
theorem addS_T {T : TG} {len : Nat} {ks : Nat → Nat} (hT : TOK T) (hs : tNs T < 4) (h1 : 1 ≤ len ∧ len ≤ 3) (hk : ∀ i, i < len → ks i < 3) : TOK (addS T len ks) := by
  refine ⟨hT.1, by show tNs T + 1 ≤ 4; omega, hT.2.2.1, fun s hs2 => ?_⟩
  by_cases hse : s = tNs T
  · have e1 : tSl (addS T len ks) s = len := if_pos hse
    have e2 : ∀ i, tSk (addS T len ks) s i = ks i := fun i => if_pos hse
    rw [e1]
    exact ⟨h1.1, h1.2, fun i hi => by rw [e2]; exact hk i hi⟩
  · have hs3 : s < tNs T := by
      have : s < tNs T + 1 := hs2
      omega
    have e1 : tSl (addS T len ks) s = tSl T s := if_neg hse
    have e2 : ∀ i, tSk (addS T len ks) s i = tSk T s i := fun i => if_neg hse
    rw [e1]
    obtain ⟨o1, o2, o3⟩ := hT.2.2.2 s hs3
    exact ⟨o1, o2, fun i hi => by rw [e2]; exact o3 i hi⟩
theorem pShape_T {B : Nat → Nat} {n p e : Nat} {T T' : TG} (hT : TOK T) (hs : tNs T < 4) (h : pShape B n T p = .inr (T', e)) : TOK T' ∧ tNw T' = tNw T ∧ tNs T' = tNs T + 1 := by
  unfold pShape at h
  generalize tk B n p = q1 at h
  obtain ⟨s1, e1, k1⟩ := q1
  dsimp only at h
  cases hg1 : fig B s1 e1 k1 2 with
  | false => rw [hg1, if_pos rfl] at h; cases h
  | true =>
    rw [hg1, if_neg (by decide)] at h
    have b1 := fig_b hg1
    generalize tk B n e1 = q2 at h
    obtain ⟨s2, e2, k2⟩ := q2
    dsimp only at h
    cases hg2 : fig B s2 e2 k2 2 with
    | false =>
      rw [hg2, if_pos rfl] at h
      by_cases h3 : k2 = 3
      · rw [if_pos h3] at h
        injection h with h
        injection h with h h'
        subst h
        exact ⟨addS_T hT hs ⟨by decide, by decide⟩ (fun i hi => by unfold ks3; split <;> (try split) <;> omega), rfl, rfl⟩
      · rw [if_neg h3] at h
        cases h
    | true =>
      rw [hg2, if_neg (by decide)] at h
      have b2 := fig_b hg2
      generalize tk B n e2 = q3 at h
      obtain ⟨s3, e3, k3⟩ := q3
      dsimp only at h
      cases hg3 : fig B s3 e3 k3 2 with
      | false =>
        rw [hg3, if_pos rfl] at h
        by_cases h3 : k3 = 3
        · rw [if_pos h3] at h
          injection h with h
          injection h with h h'
          subst h
          exact ⟨addS_T hT hs ⟨by decide, by decide⟩ (fun i hi => by unfold ks3; split <;> (try split) <;> omega), rfl, rfl⟩
        · rw [if_neg h3] at h
          cases h
      | true =>
        rw [hg3, if_neg (by decide)] at h
        have b3 := fig_b hg3
        generalize tk B n e3 = q4 at h
        obtain ⟨s4, e4, k4⟩ := q4
        dsimp only at h
        by_cases h3 : k4 = 3
        · rw [if_pos h3] at h
          injection h with h
          injection h with h h'
          subst h
          exact ⟨addS_T hT hs ⟨by decide, by decide⟩ (fun i hi => by unfold ks3; split <;> (try split) <;> omega), rfl, rfl⟩
        · rw [if_neg h3] at h
          cases h
theorem csW_5 {B : Nat → Nat} {s e : Nat} : csW B s e = 5 ↔ isNm B s e 0 = true := by
  unfold csW
  cases isNm B s e 0 with
  | true => simp
  | false =>
    rw [if_neg (by decide)]
    split
    · simp
    · split <;> simp
theorem csW_6 {B : Nat → Nat} {s e : Nat} (h0 : ¬ isNm B s e 0 = true) : csW B s e = 6 ↔ isNm B s e 1 = true := by
  unfold csW
  rw [if_neg h0]
  cases isNm B s e 1 with
  | true => simp
  | false =>
    rw [if_neg (by decide)]
    split <;> simp
def rdA (dr : Nat) (M : MM) (o : Option (Int32 × MM)) : Nat ⊕ TG → Prop
  | .inl s => ∃ M', o = some (0, M') ∧ AgP M M' (PC dr) ∧ gI M' 1 2 = nI s
  | .inr T' => ∃ M', o = some (1, M') ∧ AgP M M' (PC dr) ∧ CTg M' dr T' ∧ TOK T'
theorem rdA.tr {dr : Nat} {M M2 : MM} {o : Option (Int32 × MM)} {r : Nat ⊕ TG} (a : AgP M M2 (PC dr)) (h : rdA dr M2 o r) : rdA dr M o r := by
  cases r with
  | inl s =>
    obtain ⟨M', h1, h2, h3⟩ := h
    exact ⟨M', h1, a.tr h2, h3⟩
  | inr T' =>
    obtain ⟨M', h1, h2, h3⟩ := h
    exact ⟨M', h1, a.tr h2, h3⟩
theorem c_all {sp dr n : Nat} {B : Nat → Nat} (hn : n ≤ 200) : ∀ f fuel M T p, f + (tNw T + tNs T) = 14 → f < fuel → LAY M sp dr → TX M B n → p ≤ n → gI M 1 3 = nI p → CTg M dr T → TOK T → rdA dr M (lp (fun t => z_X4_readAll_16 t.2 dr 1 t.1) fuel (nI (tNw T + tNs T), M)) (pAll B n f T p) := by
  intro f
  induction f with
  | zero =>
    intro fuel M T p hf hfu L X hp g3 hC hT
    have := hT.1
    have := hT.2.1
    omega
  | succ f ih =>
    intro fuel M T p hf hfu L X hp g3 hC hT
    obtain ⟨fuel, rfl⟩ : ∃ m, fuel = m + 1 := ⟨fuel - 1, by omega⟩
    have c13 : ¬ (13 : Int32) < nI (tNw T + tNs T) := fun q => by have := (nI_ltI (a := 13) (by decide) (by omega)).mp q; omega
    unfold pAll
    have t1 := tk_s (B := B) (n := n) hp
    generalize tk B n p = q1 at t1
    obtain ⟨s, e, k⟩ := q1
    dsimp only at t1 ⊢
    have he := (tok_e t1).2
    obtain ⟨M1, f1, a1, v2, v3, v4, -⟩ := c_adv L X hn hp g3 t1
    have A1 : AgP M M1 (PC dr) := a1.mono (fun _ _ h => Or.inl h)
    have L1 := L.agp a1
    have X1 := X.agp A1 (fun h => by have := L.dr; unfold PC at h; omega) (fun j h => by have := L.dr; unfold PC at h; omega)
    have hdr := L.dr
    have hC1 : CTg M1 dr T := by
      have h9 := hT.1
      have h4 := hT.2.1
      refine ⟨by rw [PT.o a1 (by omega)]; exact hC.1, by rw [PT.o a1 (by omega)]; exact hC.2.1, fun w hw => ?_, fun s hs => ?_⟩
      · rw [PT.o a1 (by omega), PT.o a1 (by omega), PT.o a1 (by omega), PT.o a1 (by omega)]
        obtain ⟨o1, o2, o3, o4, o5⟩ := hC.2.2.1 w hw
        exact ⟨o1, o2, o3, o4, fun i hi => by rw [PT.o a1 (by omega)]; exact o5 i hi⟩
      · rw [PT.o a1 (by omega)]
        obtain ⟨o1, o2⟩ := hC.2.2.2 s hs
        exact ⟨o1, fun i hi => by rw [PT.o a1 (by omega)]; exact o2 i hi⟩
    have hcs := csT_le (B := B) (s := s) (e := e) (k := k)
    have c0 : (nI (csT B s e k) = 0) = (csT B s e k = 0) := nn_eq (b := 0) (by omega) (by decide)
    have c5 : (nI (csT B s e k) = 5) = (csT B s e k = 5) := nn_eq (b := 5) (by omega) (by decide)
    have c6 : (nI (csT B s e k) = 6) = (csT B s e k = 6) := nn_eq (b := 6) (by omega) (by decide)
    have hz : z_X4_readAll_16 M dr 1 (nI (tNw T + tNs T)) = if csT B s e k = 0 then some (.inl (1, M1)) else if csT B s e k = 5 then ((f_X4_readWord M1 dr 1).bind fun v6 => if v6.2.1 = M1.1 then (j_X4_readAll_73 v6.2 dr 1 (nI (tNw T + tNs T)) v6.1) else none) else if csT B s e k = 6 then ((f_X4_readShape M1 dr 1).bind fun v5 => if v5.2.1 = M1.1 then (if v5.1 = 0 then (j_X4_readAll_72 v5.2 dr 1 (nI (tNw T + tNs T))) else (j_X4_readAll_73 v5.2 dr 1 (nI (tNw T + tNs T)) 1)) else none) else (j_X4_readAll_72 M1 dr 1 (nI (tNw T + tNs T))) := by
      unfold z_X4_readAll_16
      rw [if_neg c13, f1, Option.bind_some, if_pos a1.1, tf L1, Option.bind_some, v4]
      simp only [c0, c5, c6, Option.bind_some]
    have hbad : z_X4_readAll_16 M dr 1 (nI (tNw T + tNs T)) = some (.inl (0, M1)) → rdA dr M (lp (fun t => z_X4_readAll_16 t.2 dr 1 t.1) (fuel + 1) (nI (tNw T + tNs T), M)) (.inl s) := by
      intro h
      exact ⟨M1, lp_l h, A1, v2⟩
    by_cases k0 : k = 0
    · rw [if_pos k0]
      rw [if_pos (csT_0.mpr k0)] at hz
      exact ⟨M1, lp_l hz, A1, hC1, hT⟩
    · rw [if_neg k0]
      rw [if_neg (fun q => k0 (csT_0.mp q))] at hz
      have e73 : ∀ (M' : MM) (v : Int32), j_X4_readAll_73 M' dr 1 (nI (tNw T + tNs T)) v = if v = 0 then some (.inl (0, M')) else some (.inr (nI (tNw T + tNs T + 1), M')) := by
        intro M' v
        unfold j_X4_readAll_73
        rw [nI_1]
      by_cases h5 : k = 1 ∧ isNm B s e 0 = true
      · rw [if_pos h5]
        rw [if_pos ((csT_big (by decide)).mpr ⟨h5.1, csW_5.mpr h5.2⟩)] at hz
        by_cases hw9 : tNw T = 9
        · rw [if_pos hw9]
          refine hbad ?_
          obtain ⟨ks0, ks1, -, -, -, -, -, -, ks8⟩ := tkf L.dr
          rw [hz]
          have : f_X4_readWord M1 dr 1 = some (0, M1) := by
            unfold f_X4_readWord
            rw [if_pos ⟨by rw [L1.1]; omega, ks1⟩, fI_e L1.1 ks8 (by rw [ks1]; rfl), Option.bind_some, hC1.1, hw9, if_neg (by decide)]
          rw [this, Option.bind_some, if_pos rfl, e73, if_pos rfl]
        · rw [if_neg hw9]
          have hw8 : tNw T < 9 := by have := hT.1; omega
          have hrd := c_readWord L1 X1 hn he v3 hC1 hw8 hT.2.1
          cases hpw : pWord B n T e with
          | inl s' =>
            rw [hpw] at hrd
            obtain ⟨M2, f2, a2, v2'⟩ := hrd
            rw [f2, Option.bind_some, if_pos a2.1, e73, if_pos rfl] at hz
            exact ⟨M2, lp_l hz, A1.tr a2, v2'⟩
          | inr r =>
            obtain ⟨T', e'⟩ := r
            rw [hpw] at hrd
            obtain ⟨M2, f2, a2, v3', he', hC'⟩ := hrd
            obtain ⟨hT', q1, q2⟩ := pWord_T he hT hw8 hpw
            rw [f2, Option.bind_some, if_pos a2.1, e73, if_neg (show ¬ ((1 : Int32), M2).1 = 0 by show ¬ (1 : Int32) = 0; decide)] at hz
            rw [lp_e (t := (nI (tNw T + tNs T + 1), M2)) hz]
            have h := ih fuel M2 T' e' (by omega) (by omega) (L1.agp a2) (X1.agp a2 (fun h => by unfold PC at h; omega) (fun j h => by unfold PC at h; omega)) he' v3' hC' hT'
            rw [show tNw T' + tNs T' = tNw T + tNs T + 1 by omega] at h
            exact h.tr (A1.tr a2)
      · rw [if_neg h5]
        rw [if_neg (fun q => h5 ⟨((csT_big (by decide)).mp q).1, csW_5.mp ((csT_big (by decide)).mp q).2⟩)] at hz
        by_cases h6 : k = 1 ∧ isNm B s e 1 = true
        · rw [if_pos h6]
          have n0 : ¬ isNm B s e 0 = true := fun q => h5 ⟨h6.1, q⟩
          rw [if_pos ((csT_big (by decide)).mpr ⟨h6.1, (csW_6 n0).mpr h6.2⟩)] at hz
          by_cases hs4 : tNs T = 4
          · rw [if_pos hs4]
            refine hbad ?_
            obtain ⟨ks0, ks1, -, -, -, -, -, -, ks8⟩ := tkf L.dr
            rw [hz]
            have : f_X4_readShape M1 dr 1 = some (0, M1) := by
              unfold f_X4_readShape
              rw [if_pos ⟨by rw [L1.1]; omega, ks1⟩, fI_e L1.1 ks8 (by rw [ks1]; rfl), Option.bind_some, hC1.2.1, hs4, if_pos (by decide)]
            rw [this, Option.bind_some, if_pos rfl, if_pos rfl]
            unfold j_X4_readAll_72
            rw [e73, if_pos rfl]
          · rw [if_neg hs4]
            have hs3 : tNs T < 4 := by have := hT.2.1; omega
            have hrd := c_readShape L1 X1 hn he v3 hC1 hT.1 hs3
            cases hpw : pShape B n T e with
            | inl s' =>
              rw [hpw] at hrd
              obtain ⟨M2, f2, a2, v2'⟩ := hrd
              rw [f2, Option.bind_some, if_pos a2.1, if_pos rfl] at hz
              unfold j_X4_readAll_72 at hz
              rw [e73, if_pos rfl] at hz
              exact ⟨M2, lp_l hz, A1.tr a2, v2'⟩
            | inr r =>
              obtain ⟨T', e'⟩ := r
              rw [hpw] at hrd
              obtain ⟨M2, f2, a2, v3', he', hC'⟩ := hrd
              obtain ⟨hT', q1, q2⟩ := pShape_T hT hs3 hpw
              rw [f2, Option.bind_some, if_pos a2.1, if_neg (show ¬ ((1 : Int32), M2).1 = 0 by show ¬ (1 : Int32) = 0; decide), e73, if_neg (by decide)] at hz
              rw [lp_e (t := (nI (tNw T + tNs T + 1), M2)) hz]
              have h := ih fuel M2 T' e' (by omega) (by omega) (L1.agp a2) (X1.agp a2 (fun h => by unfold PC at h; omega) (fun j h => by unfold PC at h; omega)) he' v3' hC' hT'
              rw [show tNw T' + tNs T' = tNw T + tNs T + 1 by omega] at h
              exact h.tr (A1.tr a2)
        · rw [if_neg h6]
          refine hbad ?_
          rw [if_neg (fun q => by
            obtain ⟨q1, q2⟩ := (csT_big (by decide)).mp q
            exact h6 ⟨q1, (csW_6 (fun q => h5 ⟨q1, q⟩)).mp q2⟩)] at hz
          rw [hz]
          unfold j_X4_readAll_72
          rw [e73, if_pos rfl]
def T0 : TG := (0, 0, fun _ => 0, fun _ _ => 0, fun _ => 0, fun _ => 0, fun _ => 0, fun _ => 0, fun _ _ => 0)
theorem T0_ok : TOK T0 := ⟨by decide, by decide, fun w hw => absurd hw (Nat.not_lt_zero w), fun s hs => absurd hs (Nat.not_lt_zero s)⟩
theorem c_readAll {sp dr n : Nat} {B : Nat → Nat} {M : MM} (L : LAY M sp dr) (X : TX M B n) (hn : n ≤ 200) : rdA dr M (f_X4_readAll M dr 1) (pAll B n 14 T0 0) := by
  obtain ⟨ks0, ks1, -, -, -, -, -, -, ks8⟩ := tkf L.dr
  have hdr := L.dr
  have kdr : (kd dr == 4) = true := by rw [ks1]; rfl
  have a1 : AgP M (sI M dr 2 0) (PC dr) := AgP.rf.sI (Or.inr (by omega))
  have L1 := L.agp a1
  have a2 : AgP M (sI (sI M dr 2 0) dr 3 0) (PC dr) := a1.sI (Or.inr (by omega))
  have L2 := L.agp a2
  have y2 : gI (sI (sI M dr 2 0) dr 3 0) dr 2 = 0 := by rw [gI_sI, if_neg (by omega), gI_sI, if_pos ⟨rfl, rfl⟩]
  have y3 : gI (sI (sI M dr 2 0) dr 3 0) dr 3 = 0 := by rw [gI_sI, if_pos ⟨rfl, rfl⟩]
  have a3 : AgP M (sI (sI (sI M dr 2 0) dr 3 0) 1 3 0) (PC dr) := a2.sI (Or.inl ⟨rfl, by decide⟩)
  have L3 := L.agp a3
  unfold f_X4_readAll
  rw [if_pos ⟨by rw [L.1]; omega, ks1⟩, wfI_e L.1 ks8 kdr, Option.bind_some, wfI_e L1.1 ks8 kdr, Option.bind_some]
  unfold f_X3_rewind
  rw [if_pos (by rw [L2.1]; decide), wtf L2, Option.bind_some, Option.bind_some]
  rw [if_pos (show (sI (sI (sI M dr 2 0) dr 3 0) 1 3 0).1 = (sI (sI M dr 2 0) dr 3 0).1 from rfl)]
  refine rdA.tr a3 (c_all hn 14 FU _ T0 0 rfl (show 14 < 4000 by decide) L3 (X.agp a3 (fun h => by unfold PC at h; omega) (fun j h => by unfold PC at h; omega)) (Nat.zero_le _) (by rw [g1_same]; rfl) ⟨?_, ?_, fun w hw => absurd hw (Nat.not_lt_zero w), fun s hs => absurd hs (Nat.not_lt_zero s)⟩ T0_ok)
  · rw [gI_sI, if_neg (by omega), y2]
    rfl
  · rw [gI_sI, if_neg (by omega), y3]
    rfl
