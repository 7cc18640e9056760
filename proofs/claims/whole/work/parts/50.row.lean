/-! PURE: one row of the class's tables -/
def AgG (M M' : MM) (P : Nat → Nat → Prop) : Prop := M'.1 = M.1 ∧ (∀ p j, gR M' p j = gR M p j) ∧ (∀ p j, ¬ P p j → gJ M' p j = gJ M p j) ∧ ∀ p j, ¬ P p j → gI M' p j = gI M p j
theorem AgG.rf {M : MM} {P : Nat → Nat → Prop} : AgG M M P := ⟨rfl, fun _ _ => rfl, fun _ _ _ => rfl, fun _ _ _ => rfl⟩
theorem AgG.sI {M M' : MM} {P : Nat → Nat → Prop} {p j : Nat} {v : Int32} (h : AgG M M' P) (hp : P p j) : AgG M (sI M' p j v) P := by
  refine ⟨h.1, h.2.1, h.2.2.1, fun q k hq => ?_⟩
  rw [gI_sI, if_neg (show ¬ (q = p ∧ k = j) from fun e => hq (e.1 ▸ e.2 ▸ hp))]
  exact h.2.2.2 q k hq
theorem AgG.sJ {M M' : MM} {P : Nat → Nat → Prop} {p j : Nat} {v : Int64} (h : AgG M M' P) (hp : P p j) : AgG M (sJ M' p j v) P := by
  refine ⟨h.1, h.2.1, fun q k hq => ?_, h.2.2.2⟩
  rw [gJ_sJ, if_neg (show ¬ (q = p ∧ k = j) from fun e => hq (e.1 ▸ e.2 ▸ hp))]
  exact h.2.2.1 q k hq
theorem AgG.tr {M M' M2 : MM} {P : Nat → Nat → Prop} (h : AgG M M' P) (h2 : AgG M' M2 P) : AgG M M2 P := ⟨h2.1.trans h.1, fun p j => (h2.2.1 p j).trans (h.2.1 p j), fun p j hp => (h2.2.2.1 p j hp).trans (h.2.2.1 p j hp), fun p j hp => (h2.2.2.2 p j hp).trans (h.2.2.2 p j hp)⟩
theorem AgG.mono {M M' : MM} {P Q : Nat → Nat → Prop} (h : AgG M M' P) (hs : ∀ p j, P p j → Q p j) : AgG M M' Q := ⟨h.1, h.2.1, fun p j hp => h.2.2.1 p j (fun e => hp (hs p j e)), fun p j hp => h.2.2.2 p j (fun e => hp (hs p j e))⟩
theorem AgP.g {M M' : MM} {P : Nat → Nat → Prop} (h : AgP M M' P) : AgG M M' P := ⟨h.1, h.2.1, fun p j _ => h.2.2.1 p j, h.2.2.2⟩
theorem LAY.agg {M M' : MM} {P : Nat → Nat → Prop} {sp dr : Nat} (h : LAY M sp dr) (a : AgG M M' P) : LAY M' sp dr := h.of a.1 a.2.1
theorem CTg.agg {M M' : MM} {P : Nat → Nat → Prop} {t : Nat} {T : TG} (h : CTg M t T) (a : AgG M M' P) (hT : tNw T ≤ 9 ∧ tNs T ≤ 4) (hd : ∀ p j, t ≤ p → p < t + 29 → ¬ P p j) : CTg M' t T := by
  have e : ∀ p, t ≤ p → p < t + 29 → ∀ j, gI M' p j = gI M p j := fun p h1 h2 j => a.2.2.2 p j (hd p j h1 h2)
  refine ⟨by rw [e t (by omega) (by omega)]; exact h.1, by rw [e t (by omega) (by omega)]; exact h.2.1, fun w hw => ?_, fun s hs => ?_⟩
  · simp only [e (t + 3 + 2 * w) (by omega) (by omega), e (t + 4 + 2 * w) (by omega) (by omega)]
    exact h.2.2.1 w hw
  · simp only [e (t + 21 + 2 * s) (by omega) (by omega), e (t + 22 + 2 * s) (by omega) (by omega)]
    exact h.2.2.2 s hs
theorem q4 {M : MM} {sp dr : Nat} (L : LAY M sp dr) : fR M 3 1 0 = some 4 := by rw [fR_e L.1 (by decide) rfl]; exact ly_3_0 L
theorem q5 {M : MM} {sp dr : Nat} (L : LAY M sp dr) : fR M 3 1 1 = some 5 := by rw [fR_e L.1 (by decide) rfl]; exact ly_3_1 L
theorem q6 {M : MM} {sp dr : Nat} (L : LAY M sp dr) : fR M 3 1 2 = some 6 := by rw [fR_e L.1 (by decide) rfl]; exact ly_3_2 L
theorem q7 {M : MM} {sp dr : Nat} (L : LAY M sp dr) : fR M 3 1 3 = some 7 := by rw [fR_e L.1 (by decide) rfl]; exact ly_3_3 L
theorem q8 {M : MM} {sp dr : Nat} (L : LAY M sp dr) : fR M 3 1 4 = some 8 := by rw [fR_e L.1 (by decide) rfl]; exact ly_3_4 L
theorem q9 {M : MM} {sp dr : Nat} (L : LAY M sp dr) : fR M 3 1 5 = some 9 := by rw [fR_e L.1 (by decide) rfl]; exact ly_3_5 L
theorem q10 {M : MM} {sp dr : Nat} (L : LAY M sp dr) : fR M 3 1 6 = some 10 := by rw [fR_e L.1 (by decide) rfl]; exact ly_3_6 L
theorem q11 {M : MM} {sp dr : Nat} (L : LAY M sp dr) : fR M 3 1 7 = some 11 := by rw [fR_e L.1 (by decide) rfl]; exact ly_3_7 L
theorem q12 {M : MM} {sp dr : Nat} (L : LAY M sp dr) : fR M 3 1 8 = some 12 := by rw [fR_e L.1 (by decide) rfl]; exact ly_3_8 L
theorem q13 {M : MM} {sp dr : Nat} (L : LAY M sp dr) : fR M 3 1 10 = some 13 := by rw [fR_e L.1 (by decide) rfl]; exact ly_3_10 L
theorem q14 {M : MM} {sp dr : Nat} (L : LAY M sp dr) : fR M 3 1 11 = some 14 := by rw [fR_e L.1 (by decide) rfl]; exact ly_3_11 L
theorem q15 {M : MM} {sp dr : Nat} (L : LAY M sp dr) : fR M 3 1 12 = some 15 := by rw [fR_e L.1 (by decide) rfl]; exact ly_3_12 L
theorem s3f {M : MM} {sp dr : Nat} (L : LAY M sp dr) (k : Nat) : fI M 3 1 k = some (gI M 3 k) := fI_e L.1 (by decide) rfl
theorem w3f {M : MM} {sp dr : Nat} (L : LAY M sp dr) (k : Nat) (v : Int32) : wfI M 3 1 k v = some (sI M 3 k v) := wfI_e L.1 (by decide) rfl
theorem r3m {M : MM} {sp dr : Nat} (L : LAY M sp dr) : 3 < M.1 ∧ kd 3 = 1 := by rw [L.1]; decide
def R3 (p : Nat) : Prop := p = 5 ∨ p = 6 ∨ p = 7 ∨ p = 8 ∨ p = 10 ∨ p = 11 ∨ p = 13 ∨ p = 14 ∨ p = 15
theorem R3.k {p : Nat} (h : R3 p) : p < 93 ∧ (kd p == 8) = true ∧ ln p = 1000 := by
  rcases h with rfl | rfl | rfl | rfl | rfl | rfl | rfl | rfl | rfl <;> decide
theorem ai3 {M : MM} {sp dr p j : Nat} (L : LAY M sp dr) (hp : R3 p) (hj : j < 1000) : aI M p (nI j) = some (gI M p j) := aI_e L.1 hp.k.1 hp.k.2.1 (by rw [hp.k.2.2]; exact hj)
theorem wi3 {M : MM} {sp dr p j : Nat} {v : Int32} (L : LAY M sp dr) (hp : R3 p) (hj : j < 1000) : waI M p (nI j) v = some (sI M p j v) := waI_e L.1 hp.k.1 hp.k.2.1 (by rw [hp.k.2.2]; exact hj)
theorem R5 : R3 5 := by unfold R3; decide
theorem R6 : R3 6 := by unfold R3; decide
theorem R7 : R3 7 := by unfold R3; decide
theorem R8 : R3 8 := by unfold R3; decide
theorem R10 : R3 10 := by unfold R3; decide
theorem R11 : R3 11 := by unfold R3; decide
theorem R13 : R3 13 := by unfold R3; decide
theorem R14 : R3 14 := by unfold R3; decide
theorem R15 : R3 15 := by unfold R3; decide
theorem az4 {M : MM} {sp dr j : Nat} (L : LAY M sp dr) (hj : j < 1000) : aZ M 4 (nI j) = some (gI M 4 j) := aZ_e L.1 (by decide) rfl (by rw [lnv_4]; exact hj)
theorem wz4 {M : MM} {sp dr j : Nat} {v : Int32} (L : LAY M sp dr) (hj : j < 1000) (hv : v = 0 ∨ v = 1) : waZ M 4 (nI j) v = some (sI M 4 j v) := waZ_e L.1 (by decide) rfl (by rw [lnv_4]; exact hj) hv
theorem aj9 {M : MM} {sp dr j : Nat} (L : LAY M sp dr) (hj : j < 1000) : aJ M 9 (nI j) = some (gJ M 9 j) := aJ_e L.1 (by decide) rfl (by rw [lnv_9]; exact hj)
theorem wj9 {M : MM} {sp dr j : Nat} {v : Int64} (L : LAY M sp dr) (hj : j < 1000) : waJ M 9 (nI j) v = some (sJ M 9 j v) := waJ_e L.1 (by decide) rfl (by rw [lnv_9]; exact hj)
theorem gJ_same {M : MM} {p j : Nat} {v : Int64} : gJ (sJ M p j v) p j = v := by rw [gJ_sJ, if_pos ⟨rfl, rfl⟩]
/-- the cells of a tongue -/
theorem tw_r {M : MM} {sp dr t w : Nat} (L : LAY M sp dr) (ht : t = 23 ∨ t = 52) (hw : w < 9) : fR M t 4 0 = some (t + 1) ∧ aR M (t + 1) 13 (nI w) = some (t + 3 + 2 * w) ∧ fR M (t + 3 + 2 * w) 5 0 = some (t + 4 + 2 * w) ∧ (∀ k, fI M (t + 3 + 2 * w) 5 k = some (gI M (t + 3 + 2 * w) k)) ∧ ∀ i, i < 5 → aI M (t + 4 + 2 * w) (nI i) = some (gI M (t + 4 + 2 * w) i) := by
  have hN := L.1
  obtain ⟨ks0, ks1, ks2, ks3, ks4, ks5, ks6, ks7, ks8⟩ := tkf ht
  obtain ⟨lt0, lt1, lt2, lt3⟩ := ly_t L t ht
  obtain ⟨k1, k2, k3⟩ := ks6 w hw
  obtain ⟨g1, g2⟩ := lt2 w hw
  refine ⟨?_, ?_, ?_, fun k => fI_e hN (by omega) (by rw [k1]; rfl), fun i hi => aI_e hN (by omega) (by rw [k2]; rfl) (by rw [k3]; exact hi)⟩
  · rw [fR_e hN ks8 (by rw [ks1]; rfl)]
    exact lt0
  · rw [aR_e hN (by omega) (by rw [ks2]; rfl) (by rw [ks3]; exact hw)]
    exact g1
  · rw [fR_e hN (by omega) (by rw [k1]; rfl)]
    exact g2
theorem ts_r {M : MM} {sp dr t s : Nat} (L : LAY M sp dr) (ht : t = 23 ∨ t = 52) (hs : s < 4) : fR M t 4 1 = some (t + 2) ∧ aR M (t + 2) 12 (nI s) = some (t + 21 + 2 * s) := by
  have hN := L.1
  obtain ⟨ks0, ks1, ks2, ks3, ks4, ks5, ks6, ks7, ks8⟩ := tkf ht
  obtain ⟨lt0, lt1, lt2, lt3⟩ := ly_t L t ht
  refine ⟨?_, ?_⟩
  · rw [fR_e hN ks8 (by rw [ks1]; rfl)]
    exact lt1
  · rw [aR_e hN (by omega) (by rw [ks4]; rfl) (by rw [ks5]; exact hs)]
    exact (lt3 s hs).1
theorem tg_f {M : MM} {sp dr t : Nat} (L : LAY M sp dr) (ht : t = 23 ∨ t = 52) (k : Nat) : fI M t 4 k = some (gI M t k) := by
  obtain ⟨ks0, ks1, ks2, ks3, ks4, ks5, ks6, ks7, ks8⟩ := tkf ht
  exact fI_e L.1 ks8 (by rw [ks1]; rfl)
/-! sums of bits -/
theorem pk8_one {f : Nat → Nat} {s0 : Nat} (h : s0 < 8) : pk 8 (fun s => f s + if s0 = s then 1 else 0) = pk 8 f + 2 ^ (8 * s0) := by
  unfold pk
  rcases (show s0 = 0 ∨ s0 = 1 ∨ s0 = 2 ∨ s0 = 3 ∨ s0 = 4 ∨ s0 = 5 ∨ s0 = 6 ∨ s0 = 7 by omega) with rfl | rfl | rfl | rfl | rfl | rfl | rfl | rfl <;> simp <;> omega
theorem pk8_add {f g : Nat → Nat} : pk 8 (fun s => f s + g s) = pk 8 f + pk 8 g := by
  simp only [pk]
  omega
theorem sh8 : ∀ s, s < 8 → (1 : Int64) <<< (((8 : Int32) * nI s).toInt64 &&& 63) = lN (2 ^ (8 * s)) := by decide +kernel
def stF (f : Nat → Nat) : Nat := pk 1 fun s => if 0 < f s then 1 else 0
theorem stF_ms {f : Nat → Nat} : nI (stF f) = ms (fun s => decide (0 < f s)) := by
  unfold stF ms
  congr 1
  refine pk_ext (fun s _ => ?_)
  simp
theorem ms_or {g : Nat → Bool} {s : Nat} (hs : s < 8) : ms g ||| ((1 : Int32) <<< (nI s &&& 31)) = ms (fun i => g i || decide (i = s)) := by
  apply b_ext
  intro i hi
  rw [b_or, bt_ms hi, bt_ms hi, b_shl s (by omega) _ hi, bt_1 _ (by omega)]
  by_cases h : i = s
  · subst h
    simp [hs]
  · have h2 : (decide (s ≤ i) && decide (i - s = 0)) = false := by
      by_cases h3 : s ≤ i
      · rw [decide_eq_false (show ¬ i - s = 0 by omega)]
        simp
      · rw [decide_eq_false h3]
        rfl
    rw [h2]
    simp [h]
theorem stF_or {f : Nat → Nat} {s0 : Nat} (h : s0 < 8) : nI (stF f) ||| ((1 : Int32) <<< (nI s0 &&& 31)) = nI (stF (fun s => f s + if s0 = s then 1 else 0)) := by
  rw [stF_ms, stF_ms, ms_or h]
  refine ms_ext (fun s _ => ?_)
  by_cases e : s0 = s
  · subst e
    simp
  · have e2 : ¬ s = s0 := fun q => e q.symm
    simp [e, e2]
/-! the signs of the last word come to the row -/
def PF (l p j : Nat) : Prop := 4 ≤ p ∧ p ≤ 10 ∧ j = l
theorem PF.tg {l t : Nat} (ht : t = 23 ∨ t = 52) : ∀ p j, t ≤ p → p < t + 29 → ¬ PF l p j := fun p j h1 _ h => by
  unfold PF at h
  omega
theorem c_177 {T : TG} {sp dr t l w c : Nat} {f : Nat → Nat} (ht : t = 23 ∨ t = 52) (hT : TOK T) (hl : l < 1000) (hw : w < tNw T) : ∀ d fuel i M, i + d = tWl T w → d < fuel → LAY M sp dr → CTg M t T → gJ M 9 l = lN (c + pk 8 (cwU T w i)) → gI M 10 l = nI (stF fun s => f s + cwU T w i s) → ∃ M', lp (fun q => z_X1_fillRow_177 q.2 3 (nI l) t (t + 3 + 2 * w) q.1) fuel (nI i, M) = lp (fun q => z_X1_fillRow_237 q.2 3 (nI l) t q.1) FU (0, M') ∧ AgG M M' (fun p j => (p = 9 ∨ p = 10) ∧ j = l) ∧ gJ M' 9 l = lN (c + pk 8 (cw T w)) ∧ gI M' 10 l = nI (stF fun s => f s + cw T w s) := by
  have hw9 := hT.1
  have hs4 := hT.2.1
  obtain ⟨-, hl5, hs8, -⟩ := hT.2.2.1 w hw
  intro d
  induction d with
  | zero =>
    intro fuel i M hi hf L hC g9 g10
    obtain ⟨fuel, rfl⟩ : ∃ m, fuel = m + 1 := ⟨fuel - 1, by omega⟩
    obtain rfl : i = tWl T w := by omega
    obtain ⟨u1, u2, u3, u4, u5⟩ := tw_r (w := w) L ht (by omega)
    refine ⟨M, lp_m ?_, AgG.rf, g9, g10⟩
    show z_X1_fillRow_177 M 3 (nI l) t (t + 3 + 2 * w) (nI (tWl T w)) = _
    unfold z_X1_fillRow_177
    rw [u4, Option.bind_some, (hC.2.2.1 w hw).1, if_pos (Int32.le_refl _)]
  | succ d ih =>
    intro fuel i M hi hf L hC g9 g10
    obtain ⟨fuel, rfl⟩ : ∃ m, fuel = m + 1 := ⟨fuel - 1, by omega⟩
    obtain ⟨u1, u2, u3, u4, u5⟩ := tw_r (w := w) L ht (by omega)
    obtain ⟨v1, v2, v3, v4, v5⟩ := hC.2.2.1 w hw
    have hil : i < tWl T w := by omega
    have c1 : ¬ nI (tWl T w) ≤ nI i := fun e => by have := (nI_leI (by omega) (by omega)).mp e; omega
    have hsg := hs8 i hil
    have e9 : lN (c + pk 8 (cwU T w i)) + lN (2 ^ (8 * tSg T w i)) = lN (c + pk 8 (cwU T w (i + 1))) := by
      rw [L_add, pk_ext (c := 8) (f := cwU T w (i + 1)) (fun s _ => cwU_s), pk8_one hsg]
      congr 1
      omega
    have e10 : nI (stF fun s => f s + cwU T w i s) ||| ((1 : Int32) <<< (nI (tSg T w i) &&& 31)) = nI (stF fun s => f s + cwU T w (i + 1) s) := by
      rw [stF_or hsg]
      congr 1
      refine pk_ext (fun s _ => ?_)
      simp only [cwU_s, Nat.add_assoc]
    have a : AgG M (sI (sJ M 9 l (lN (c + pk 8 (cwU T w (i + 1))))) 10 l (nI (stF fun s => f s + cwU T w (i + 1) s))) (fun p j => (p = 9 ∨ p = 10) ∧ j = l) := (AgG.rf.sJ ⟨Or.inl rfl, rfl⟩).sI ⟨Or.inr rfl, rfl⟩
    obtain ⟨M', f', a', g', g''⟩ := ih fuel (i + 1) _ (by omega) (by omega) (L.agg a) (hC.agg a ⟨hw9, hs4⟩ (fun p j h1 _ q => by omega)) (by rw [gJ_sI, gJ_same]) gp_same
    refine ⟨M', ?_, a.tr a', g', g''⟩
    rw [lp_e (t := (nI (i + 1), sI (sJ M 9 l (lN (c + pk 8 (cwU T w (i + 1))))) 10 l (nI (stF fun s => f s + cwU T w (i + 1) s))))]
    · exact f'
    · obtain ⟨u1', u2', u3', u4', u5'⟩ := tw_r (w := w) (L.sj (p := 9) (j := l) (v := lN (c + pk 8 (cwU T w (i + 1))))) ht (by omega)
      show z_X1_fillRow_177 M 3 (nI l) t (t + 3 + 2 * w) (nI i) = _
      unfold z_X1_fillRow_177
      rw [u4, Option.bind_some, v1, if_neg c1, q9 L, Option.bind_some, aj9 L hl, Option.bind_some, g9, u3, Option.bind_some, u5 i (by omega), Option.bind_some, v5 i hil, sh8 _ hsg, e9, wj9 L hl, Option.bind_some, q10 L.sj, Option.bind_some, ai3 L.sj R10 hl, Option.bind_some, u3', Option.bind_some, u5' i (by omega), Option.bind_some, gI_sJ, gI_sJ, g10, v5 i hil, e10, wi3 L.sj R10 hl, Option.bind_some, nI_1]
/-- which shapes the row has -/
theorem c_237 {T : TG} {sp dr t l : Nat} (ht : t = 23 ∨ t = 52) (hT : TOK T) (hl : l < 1000) (hr : isRow T l = true) : ∀ d fuel k M, k + d = tNs T → d < fuel → LAY M sp dr → CTg M t T → gI M 5 l = nI (rowN (kinds T l)) → gI M 4 l = b2i (shU T l k) → ∃ M', lp (fun q => z_X1_fillRow_237 q.2 3 (nI l) t q.1) fuel (nI k, M) = some M' ∧ AgG M M' (fun p j => p = 4 ∧ j = l) ∧ gI M' 4 l = b2i (shU T l (tNs T)) := by
  have hw9 := hT.1
  have hs4 := hT.2.1
  intro d
  induction d with
  | zero =>
    intro fuel k M hi hf L hC g5 g4
    obtain ⟨fuel, rfl⟩ : ∃ m, fuel = m + 1 := ⟨fuel - 1, by omega⟩
    obtain rfl : k = tNs T := by omega
    refine ⟨M, lp_l ?_, AgG.rf, g4⟩
    show z_X1_fillRow_237 M 3 (nI l) t (nI (tNs T)) = _
    unfold z_X1_fillRow_237
    rw [tg_f L ht, Option.bind_some, hC.2.1, if_pos (Int32.le_refl _)]
  | succ d ih =>
    intro fuel k M hi hf L hC g5 g4
    obtain ⟨fuel, rfl⟩ : ∃ m, fuel = m + 1 := ⟨fuel - 1, by omega⟩
    have hk : k < tNs T := by omega
    have c1 : ¬ nI (tNs T) ≤ nI k := fun e => by have := (nI_leI (by omega) (by omega)).mp e; omega
    obtain ⟨u1, u2⟩ := ts_r (s := k) L ht (by omega)
    have a : AgG M (sI M 4 l (b2i (shU T l (k + 1)))) (fun p j => p = 4 ∧ j = l) := AgG.rf.sI ⟨rfl, rfl⟩
    obtain ⟨M', f', a', g'⟩ := ih fuel (k + 1) _ (by omega) (by omega) (L.agg a) (hC.agg a ⟨hw9, hs4⟩ (fun p j h1 _ q => by omega)) (by rw [gp_cell (by decide)]; exact g5) gp_same
    refine ⟨M', ?_, a.tr a', g'⟩
    rw [lp_e (t := (nI (k + 1), sI M 4 l (b2i (shU T l (k + 1)))))]
    · exact f'
    · show z_X1_fillRow_237 M 3 (nI l) t (nI k) = _
      unfold z_X1_fillRow_237 j_X1_fillRow_279 j_X1_fillRow_284
      rw [tg_f L ht, Option.bind_some, hC.2.1, if_neg c1, q4 L, Option.bind_some, Option.bind_some, az4 L hl, Option.bind_some, g4, wz4 L hl (Or.inr rfl), Option.bind_some, wz4 L hl (Or.inl rfl), Option.bind_some, nI_1, shU_s]
      cases hu : shU T l k with
      | true =>
        rw [if_neg (show ¬ b2i true = 0 by decide)]
        rfl
      | false =>
        rw [if_pos (show b2i false = 0 from rfl), u1, Option.bind_some, u2, Option.bind_some, c_row L ht hT hC hk, Option.bind_some, q5 L, Option.bind_some, ai3 L R5 hl, Option.bind_some, g5]
        by_cases hq : shK T k = kinds T l
        · rw [if_pos ((rowN_eq hT hk hr).mpr hq), decide_eq_true hq]
          rfl
        · rw [if_neg (fun e => hq ((rowN_eq hT hk hr).mp e)), decide_eq_false hq]
          rfl
