/-! PURE: the text is read -/
theorem LAY.swap {M : MM} {sp dr : Nat} (h : LAY M sp dr) : LAY (sR (sR M 0 4 (some dr)) 0 5 (some sp)) dr sp := by
  have h2 : (dr = 23 ∧ sp = 52) ∨ (dr = 52 ∧ sp = 23) := by
    rcases h.2.1 with ⟨a, b⟩ | ⟨a, b⟩
    · exact Or.inr ⟨b, a⟩
    · exact Or.inl ⟨b, a⟩
  have e0 : ∀ p j, ¬ p = 0 → gR (sR (sR M 0 4 (some dr)) 0 5 (some sp)) p j = gR M p j := fun p j hp => by rw [gR_sR, if_neg (fun e => hp e.1), gR_sR, if_neg (fun e => hp e.1)]
  have e1 : ∀ j, ¬ j = 4 → ¬ j = 5 → gR (sR (sR M 0 4 (some dr)) 0 5 (some sp)) 0 j = gR M 0 j := fun j h4 h5 => by rw [gR_sR, if_neg (fun e => h5 e.2), gR_sR, if_neg (fun e => h4 e.2)]
  have e4 : gR (sR (sR M 0 4 (some dr)) 0 5 (some sp)) 0 4 = some dr := by rw [gR_sR, if_neg (by decide), gR_sR, if_pos ⟨rfl, rfl⟩]
  have e5 : gR (sR (sR M 0 4 (some dr)) 0 5 (some sp)) 0 5 = some sp := by rw [gR_sR, if_pos ⟨rfl, rfl⟩]
  refine ⟨h.1, h2, (e1 0 (by decide) (by decide)).trans (ly_0_0 h), (e1 1 (by decide) (by decide)).trans (ly_0_1 h), (e1 2 (by decide) (by decide)).trans (ly_0_2 h), (e1 3 (by decide) (by decide)).trans (ly_0_3 h), e4, e5, (e0 1 0 (by decide)).trans (ly_1_0 h), (e0 3 0 (by decide)).trans (ly_3_0 h), (e0 3 1 (by decide)).trans (ly_3_1 h), (e0 3 2 (by decide)).trans (ly_3_2 h), (e0 3 3 (by decide)).trans (ly_3_3 h), (e0 3 4 (by decide)).trans (ly_3_4 h), (e0 3 5 (by decide)).trans (ly_3_5 h), (e0 3 6 (by decide)).trans (ly_3_6 h), (e0 3 7 (by decide)).trans (ly_3_7 h), (e0 3 8 (by decide)).trans (ly_3_8 h), (e0 3 10 (by decide)).trans (ly_3_10 h), (e0 3 11 (by decide)).trans (ly_3_11 h), (e0 3 12 (by decide)).trans (ly_3_12 h), (e0 16 0 (by decide)).trans (ly_16_0 h), (e0 18 0 (by decide)).trans (ly_18_0 h), (e0 18 1 (by decide)).trans (ly_18_1 h), (e0 19 0 (by decide)).trans (ly_19_0 h), (e0 21 0 (by decide)).trans (ly_21_0 h), (e0 81 1 (by decide)).trans (ly_81_1 h), (e0 81 3 (by decide)).trans (ly_81_3 h), (e0 81 4 (by decide)).trans (ly_81_4 h), (e0 81 5 (by decide)).trans (ly_81_5 h), (e0 81 6 (by decide)).trans (ly_81_6 h), (e0 81 7 (by decide)).trans (ly_81_7 h), (e0 81 8 (by decide)).trans (ly_81_8 h), (e0 81 9 (by decide)).trans (ly_81_9 h), (e0 81 10 (by decide)).trans (ly_81_10 h), (e0 81 11 (by decide)).trans (ly_81_11 h), (e0 81 17 (by decide)).trans (ly_81_17 h), fun t ht => ?_⟩
  obtain ⟨t0, t1, t2, t3⟩ := ly_t h t ht
  have hz : ¬ t = 0 := by omega
  rw [e0 t 0 hz, e0 t 1 hz]
  refine ⟨t0, t1, fun w hw => ?_, fun s hs => ?_⟩
  · rw [e0 (t + 1) w (by omega), e0 (t + 3 + 2 * w) 0 (by omega)]
    exact t2 w hw
  · rw [e0 (t + 2) s (by omega), e0 (t + 21 + 2 * s) 0 (by omega)]
    exact t3 s hs
theorem o_f {M : MM} {sp dr : Nat} (L : LAY M sp dr) (k : Nat) : fR M 0 6 k = gR M 0 k := fR_e L.1 (by decide) rfl
theorem SAY.agg {M M' : MM} {P : Nat → Nat → Prop} {T : TG} (h : SAY M T) (a : AgG M M' P) (hd : ∀ p j, 3 ≤ p → p < 13 → (p = 3 → j = 9) → ¬ P p j) : SAY M' T := by
  have e : ∀ p j, 3 ≤ p → p < 13 → (p = 3 → j = 9) → gI M' p j = gI M p j := fun p j h1 h2 h3 => a.2.2.2 p j (hd p j h1 h2 h3)
  have e9 : gI M' 3 9 = gI M 3 9 := e 3 9 (by decide) (by decide) (fun _ => rfl)
  have e4 : ∀ j, gI M' 4 j = gI M 4 j := fun j => e 4 j (by decide) (by decide) (fun q => absurd q (by decide))
  have e5 : ∀ j, gI M' 5 j = gI M 5 j := fun j => e 5 j (by decide) (by decide) (fun q => absurd q (by decide))
  have e6 : ∀ j, gI M' 6 j = gI M 6 j := fun j => e 6 j (by decide) (by decide) (fun q => absurd q (by decide))
  have e7 : ∀ j, gI M' 7 j = gI M 7 j := fun j => e 7 j (by decide) (by decide) (fun q => absurd q (by decide))
  have e8 : ∀ j, gI M' 8 j = gI M 8 j := fun j => e 8 j (by decide) (by decide) (fun q => absurd q (by decide))
  have e10 : ∀ j, gI M' 10 j = gI M 10 j := fun j => e 10 j (by decide) (by decide) (fun q => absurd q (by decide))
  have e11 : ∀ j, gI M' 11 j = gI M 11 j := fun j => e 11 j (by decide) (by decide) (fun q => absurd q (by decide))
  have e12 : ∀ j, gI M' 12 j = gI M 12 j := fun j => e 12 j (by decide) (by decide) (fun q => absurd q (by decide))
  have ej : ∀ j, gJ M' 9 j = gJ M 9 j := fun j => a.2.2.1 9 j (hd 9 j (by decide) (by decide) (fun q => absurd q (by decide)))
  unfold SAY at h ⊢
  simp only [e9, e4, e5, e6, e7, e8, e10, e11, e12, ej]
  exact h
theorem LST.agp {M M' : MM} {P : Nat → Nat → Prop} {T : TG} (h : LST M T) (a : AgP M M' P) (hd : ∀ p j, P p j → ¬ (p = 81 ∧ j = 12) ∧ ¬ (88 ≤ p ∧ p ≤ 91)) : LST M' T := by
  have e : ∀ p j, (88 ≤ p ∧ p ≤ 91) → gI M' p j = gI M p j := fun p j h => a.2.2.2 p j (fun q => (hd p j q).2 h)
  have e12 : gI M' 81 12 = gI M 81 12 := a.2.2.2 81 12 (fun q => (hd _ _ q).1 ⟨rfl, rfl⟩)
  have e88 : ∀ j, gI M' 88 j = gI M 88 j := fun j => e 88 j (by decide)
  have e89 : ∀ j, gI M' 89 j = gI M 89 j := fun j => e 89 j (by decide)
  have e90 : ∀ j, gI M' 90 j = gI M 90 j := fun j => e 90 j (by decide)
  have e91 : ∀ j, gI M' 91 j = gI M 91 j := fun j => e 91 j (by decide)
  unfold LST at h ⊢
  simp only [e12, e88, e89, e90, e91]
  exact h
theorem RWS.agp {M M' : MM} {P : Nat → Nat → Prop} {T : TG} {x m o k : Nat} (h : RWS M T x m o k) (a : AgP M M' P) (hd : ∀ j, ¬ P x j ∧ ¬ P m j) : RWS M' T x m o k := by
  have e1 : ∀ j, gI M' x j = gI M x j := fun j => a.2.2.2 x j (hd j).1
  have e2 : ∀ j, gI M' m j = gI M m j := fun j => a.2.2.2 m j (hd j).2
  unfold RWS at h ⊢
  simp only [e1, e2]
  exact h
/-- what a reading that fails writes -/
def PFL (dr p j : Nat) : Prop := (p = 1 ∧ 2 ≤ j) ∨ (dr ≤ p ∧ p < dr + 29) ∨ (p = 81 ∧ 13 ≤ j) ∨ p = 84
theorem Inv.agp {M M' : MM} {T : TG} {sp dr : Nat} (I : Inv M T sp dr) (a : AgP M M' (PFL dr)) : Inv M' T sp dr := by
  obtain ⟨L, hT, hC, hM, hS, hLs, hX, hP, hI0, hI1, hJ⟩ := I
  have hdr := L.2.1
  obtain ⟨n, hn, x1, x2, x3⟩ := hX
  obtain ⟨k, hk, p1, p2, p3⟩ := hP
  have e : ∀ p j, ¬ PFL dr p j → gI M' p j = gI M p j := a.2.2.2
  have u : ∀ p j, (p < 23 ∧ ¬ p = 1) ∨ 85 ≤ p ∨ p = 82 → ¬ PFL dr p j := fun p j h q => by unfold PFL at q; omega
  have hI : ∀ j, j < 2 → IMG M T j → IMG M' T j := by
    intro j hj h
    unfold IMG at h ⊢
    rw [e 87 j (u _ _ (by omega)), e (19 + 2 * j) 2 (u _ _ (by omega)), e (19 + 2 * j) 1 (u _ _ (by omega)), e 86 (13 * j) (u _ _ (by omega))]
    refine ⟨h.1, h.2.imp id fun q => ⟨q.1, ?_⟩⟩
    obtain ⟨k, h1, h2, h3, h4⟩ := q.2
    exact ⟨k, h1, h2, h3, h4.agp a (fun i => ⟨u _ _ (by omega), u _ _ (by omega)⟩)⟩
  refine ⟨L.agp a, hT, hC.agg a.g ⟨hT.1, hT.2.1⟩ (fun p j h1 h2 q => by unfold PFL at q; omega), hM.agp a (fun j q => by unfold PFL at q; omega), hS.agg a.g (fun p j h1 h2 h3 => u p j (by omega)), hLs.agp a (fun p j q => by unfold PFL at q; omega), ⟨n, hn, ?_, ?_, fun i hi => ?_⟩, ⟨k, hk, ?_, ?_, p3.agp a (fun i => ⟨u _ _ (by omega), u _ _ (by omega)⟩)⟩, hI 0 (by decide) hI0, hI 1 (by decide) hI1, by rw [a.2.2.1, a.2.2.1]; exact hJ⟩
  · rw [e 1 1 (fun q => by unfold PFL at q; omega)]
    exact x1
  · rw [e 81 2 (fun q => by unfold PFL at q; omega)]
    exact x2
  · rw [e 82 i (u _ _ (by omega)), e 2 i (u _ _ (by omega))]
    exact x3 i hi
  · rw [e 16 1 (u _ _ (by omega))]
    exact p1
  · rw [e 85 0 (u _ _ (by omega))]
    exact p2
theorem MTg.cp {M M' : MM} {T : TG} {p q : Nat} (h : MTg M p T) (hT : TOK T) (e : ∀ j, j < 110 → gI M' q j = gI M p j) : MTg M' q T := by
  have hw9 := hT.1
  have hs4 := hT.2.1
  refine ⟨by rw [e 0 (by decide)]; exact h.1, by rw [e 1 (by decide)]; exact h.2.1, fun w hw => ?_, fun s hs => ?_⟩
  · obtain ⟨v1, v2, v3, v4, v5⟩ := h.2.2.1 w hw
    have hl5 := (hT.2.2.1 w hw).2.1
    rw [e (3 + w) (by omega), e (12 + w) (by omega), e (21 + w) (by omega), e (30 + w) (by omega)]
    exact ⟨v1, v2, v3, v4, fun i hi => by rw [e (39 + 5 * w + i) (by omega)]; exact v5 i hi⟩
  · obtain ⟨v1, v2⟩ := h.2.2.2 s hs
    have hl3 := (hT.2.2.2 s hs).2.1
    rw [e (84 + s) (by omega)]
    exact ⟨v1, fun i hi => by rw [e (88 + 3 * s + i) (by omega)]; exact v2 i hi⟩
theorem rva0 {M : MM} {T : TG} (z : gI M 5 0 = 0 ∧ gI M 6 0 = 0 ∧ gI M 7 0 = 0 ∧ gI M 8 0 = 0 ∧ gI M 10 0 = 0 ∧ gJ M 9 0 = 0) : RVA M T 0 [] := by
  obtain ⟨z5, z6, z7, z8, z10, z9⟩ := z
  refine ⟨by rw [z5]; simp [rowN, n00], by rw [z6]; simp [n00], by rw [z7]; simp [n00], by rw [z8]; simp [n00], by rw [z9]; simp [pk]; rfl, by rw [z10]; simp [stF, pk, n00]⟩
/-- the reference's copy and what follows it -/
theorem m_tail {sp dr v : Nat} {T : TG} (hT : TOK T) : ∀ d fuel i M, i + d = 110 → d < fuel → LAY M sp dr → MTg M 84 T → gI M 84 2 = nI v → (∀ j, j < i → gI M 83 j = gI M 84 j) → ∃ M', lp (fun t => z_X7_tongue_17 t.2 81 t.1) fuel (nI i, M) = some (nI v, M') ∧ AgP M M' (fun p j => p = 83 ∨ (p = 85 ∧ j = 0) ∨ p = 87 ∨ (p = 81 ∧ j = 2) ∨ PLS p j) ∧ LST M' T ∧ MTg M' 83 T ∧ gI M' 85 0 = 0 ∧ gI M' 87 0 = 0 ∧ gI M' 87 1 = 0 ∧ gI M' 81 2 = 0 := by
  intro d
  induction d with
  | zero =>
    intro fuel i M hi hf L hM h2 hc
    obtain ⟨fuel, rfl⟩ : ∃ m, fuel = m + 1 := ⟨fuel - 1, by omega⟩
    obtain rfl : i = 110 := by omega
    have A : AgP M (sI (sI (sI (sI M 85 0 0) 87 0 0) 87 1 0) 81 2 0) (fun p j => (p = 85 ∧ j = 0) ∨ p = 87 ∨ (p = 81 ∧ j = 2)) := (((AgP.rf.sI (Or.inl ⟨rfl, rfl⟩)).sI (Or.inr (Or.inl rfl))).sI (Or.inr (Or.inl rfl))).sI (Or.inr (Or.inr ⟨rfl, rfl⟩))
    have e83 : ∀ j, gI (sI (sI (sI (sI M 85 0 0) 87 0 0) 87 1 0) 81 2 0) 83 j = gI M 83 j := fun j => A.2.2.2 83 j (fun q => by omega)
    have L4 : LAY (sI (sI (sI (sI M 85 0 0) 87 0 0) 87 1 0) 81 2 0) sp dr := L.agp A
    obtain ⟨M', f', a', h'⟩ := m_lists (T := T) L4 hT (hM.cp hT (fun j hj => by rw [e83 j]; exact hc j hj))
    have e' : ∀ p j, ¬ PLS p j → gI M' p j = gI (sI (sI (sI (sI M 85 0 0) 87 0 0) 87 1 0) 81 2 0) p j := a'.2.2.2
    have n8 : ∀ p j, (p < 88 ∧ ¬ p = 81) ∨ (p = 81 ∧ ¬ j = 12) → ¬ PLS p j := fun p j h q => by unfold PLS at q; omega
    refine ⟨M', lp_l ?_, (A.mono (fun p j h => by omega)).tr (a'.mono (fun p j h => Or.inr (Or.inr (Or.inr (Or.inr h))))), h', hM.cp hT (fun j hj => by rw [e' 83 j (n8 _ _ (by omega)), e83]; exact hc j hj), ?_, ?_, ?_, ?_⟩
    · have r5 : ∀ {N : MM}, LAY N sp dr → fR N 81 7 5 = some 85 := fun h => by rw [fR_e h.1 (by decide) rfl]; exact ly_81_5 h
      have r7 : ∀ {N : MM}, LAY N sp dr → fR N 81 7 7 = some 87 := fun h => by rw [fR_e h.1 (by decide) rfl]; exact ly_81_7 h
      have w85 : ∀ {N : MM}, LAY N sp dr → waI N 85 0 0 = some (sI N 85 0 0) := fun h => waI_e (i := 0) h.1 (by decide) rfl (by rw [lnv_85]; decide)
      have w870 : ∀ {N : MM}, LAY N sp dr → waZ N 87 0 0 = some (sI N 87 0 0) := fun h => waZ_e (i := 0) h.1 (by decide) rfl (by rw [lnv_87]; decide) (Or.inl rfl)
      have w871 : ∀ {N : MM}, LAY N sp dr → waZ N 87 1 0 = some (sI N 87 1 0) := fun h => waZ_e (i := 1) h.1 (by decide) rfl (by rw [lnv_87]; decide) (Or.inl rfl)
      have a2 : gI M' 83 2 = nI v := by rw [e' 83 2 (n8 _ _ (by omega)), e83, hc 2 (by decide)]; exact h2
      show z_X7_tongue_17 M 81 (nI 110) = _
      unfold z_X7_tongue_17
      rw [if_pos (by decide), r5 L, Option.bind_some, w85 L, Option.bind_some, r7 L.si, Option.bind_some, w870 L.si, Option.bind_some, r7 L.si.si, Option.bind_some, w871 L.si.si, Option.bind_some, wmf L.si.si.si, Option.bind_some, f', Option.bind_some, if_pos a'.1, r83 (L4.agp a'), Option.bind_some, show (2 : Int32) = nI 2 from rfl, a83 (L4.agp a') (by decide), a2, Option.bind_some]
      rfl
    · rw [e' 85 0 (n8 _ _ (by omega)), gp_cell (by decide), gp_cell (by decide), gp_cell (by decide), gp_same]
    · rw [e' 87 0 (n8 _ _ (by omega)), gp_cell (by decide), gp_oth (by decide), gp_same]
    · rw [e' 87 1 (n8 _ _ (by omega)), gp_cell (by decide), gp_same]
    · rw [e' 81 2 (n8 _ _ (by omega)), gp_same]
  | succ d ih =>
    intro fuel i M hi hf L hM h2 hc
    obtain ⟨fuel, rfl⟩ : ∃ m, fuel = m + 1 := ⟨fuel - 1, by omega⟩
    have a : AgP M (sI M 83 i (gI M 84 i)) (fun p j => p = 83 ∨ (p = 85 ∧ j = 0) ∨ p = 87 ∨ (p = 81 ∧ j = 2) ∨ PLS p j) := AgP.rf.sI (Or.inl rfl)
    obtain ⟨M', f', a', h'⟩ := ih fuel (i + 1) (sI M 83 i (gI M 84 i)) (by omega) (by omega) (L.agp a) (hM.cp hT (fun j hj => gp_cell (by decide))) (by rw [gp_cell (by decide)]; exact h2) (fun j hj => by
      rw [gp_cell (show ¬ 84 = 83 by decide)]
      by_cases e : j = i
      · rw [e, gp_same]
      · rw [gp_oth e]
        exact hc j (by omega))
    refine ⟨M', ?_, a.tr a', h'⟩
    rw [lp_e (t := (nI (i + 1), sI M 83 i (gI M 84 i)))]
    · exact f'
    · show z_X7_tongue_17 M 81 (nI i) = _
      unfold z_X7_tongue_17
      rw [if_neg (fun e => by have := (nI_leI (a := 110) (by decide) (by omega)).mp e; omega), r83 L, Option.bind_some, r4 L, Option.bind_some, a84 L (by omega), Option.bind_some, w83 L (by omega), Option.bind_some, nI_1]
