/-! PURE: tongue -/
theorem CTg.eq {M M' : MM} {t : Nat} {T : TG} (h : CTg M t T) (e : ∀ p j, t ≤ p → gI M' p j = gI M p j) : CTg M' t T := by
  refine ⟨by rw [e t 2 (Nat.le_refl _)]; exact h.1, by rw [e t 3 (Nat.le_refl _)]; exact h.2.1, fun w hw => ?_, fun s hs => ?_⟩
  · obtain ⟨v1, v2, v3, v4, v5⟩ := h.2.2.1 w hw
    rw [e (t + 3 + 2 * w) 1 (by omega), e (t + 3 + 2 * w) 2 (by omega), e (t + 3 + 2 * w) 3 (by omega), e (t + 3 + 2 * w) 4 (by omega)]
    exact ⟨v1, v2, v3, v4, fun i hi => by rw [e (t + 4 + 2 * w) i (by omega)]; exact v5 i hi⟩
  · obtain ⟨v1, v2⟩ := h.2.2.2 s hs
    rw [e (t + 21 + 2 * s) 1 (by omega)]
    exact ⟨v1, fun i hi => by rw [e (t + 22 + 2 * s) i (by omega)]; exact v2 i hi⟩
theorem eq_tongue {M : MM} {T : TG} {sp dr : Nat} (I : Inv M T sp dr) : ∃ r M1 M2 T' sp' dr', f_X6_tongue M 0 = some (r, M1) ∧ M1.1 = M.1 ∧ f_X7_tongue M1 81 = some (r, M2) ∧ M2.1 = M1.1 ∧ Inv M2 T' sp' dr' := by
  have I0 := I
  obtain ⟨L, hT, hC, hM, hS, hLs, hX, hP, hI0, hI1, hJ⟩ := id I
  obtain ⟨n, hn, x1, x2, x3⟩ := hX
  obtain ⟨B, hB⟩ : ∃ B : Nat → Nat, ∀ i, i < n → gI M 2 i = nI (B i) ∧ B i < 256 := ⟨fun i => (gI M 2 i).toNatClampNeg, fun i hi => by
    obtain ⟨b, hb, e⟩ := (x3 i hi).2
    dsimp only
    rw [e, nI_clamp (by omega)]
    exact ⟨rfl, hb⟩⟩
  have X : TX M B n := ⟨x1, hB⟩
  have X2 : RX M B n := ⟨x2, fun i hi => by rw [(x3 i hi).1]; exact hB i hi⟩
  have hr := c_readAll (B := B) L X hn
  have hdr := L.dr
  have hspd := L.2.1
  have r5 : fR M 0 6 5 = some dr := by rw [o_f L]; exact ly_0_5 L
  have r0 : ∀ {N : MM} {a b : Nat}, LAY N a b → fR N 0 6 0 = some 1 := fun h => by rw [o_f h]; exact ly_0_0 h
  cases hp : pAll B n 14 T0 0 with
  | inl s =>
    rw [hp] at hr
    obtain ⟨M1, f1, a1, g1⟩ := hr
    have L1 := L.agp a1
    have hm := m_reads (B := B) L1 (X2.agp a1 (fun q => by unfold PC at q; omega) (fun j q => by unfold PC at q; omega)) hn
    rw [hp] at hm
    obtain ⟨M2, f2, a2, g2⟩ := hm
    refine ⟨-10 - nI s, M1, M2, T, sp, dr, ?_, a1.1, ?_, a2.1, I0.agp ((a1.mono (fun p j q => by unfold PC at q; unfold PFL; omega)).tr (a2.mono (fun p j q => by unfold PR PU at q; unfold PFL; omega)))⟩
    · unfold f_X6_tongue
      rw [if_pos (by rw [L.1]; decide), r5, Option.bind_some, r0 L, Option.bind_some, f1, Option.bind_some, if_pos a1.1, if_pos rfl, r0 L1, Option.bind_some, tf L1, Option.bind_some, g1]
    · unfold f_X7_tongue
      rw [if_pos (r81 L1), f2, Option.bind_some, if_pos a2.1, if_pos rfl, mf (L1.agp a2), Option.bind_some, g2]
  | inr T' =>
    rw [hp] at hr
    obtain ⟨M1, f1, a1, C1, hT1⟩ := hr
    have L1 := L.agp a1
    obtain ⟨M7, e7⟩ : ∃ N, N = sR (sR M1 0 4 (some dr)) 0 5 (some sp) := ⟨_, rfl⟩
    have L7 : LAY M7 dr sp := by rw [e7]; exact L1.swap
    have g7 : ∀ p j, gI M7 p j = gI M1 p j := fun p j => by rw [e7]; rfl
    have j7 : ∀ p j, gJ M7 p j = gJ M1 p j := fun p j => by rw [e7]; rfl
    obtain ⟨M9, e9⟩ : ∃ N, N = sI M7 1 1 0 := ⟨_, rfl⟩
    have L9 : LAY M9 dr sp := by rw [e9]; exact L7.si
    have g9 : ∀ p j, ¬ p = 1 → gI M9 p j = gI M1 p j := fun p j h => by rw [e9, gp_cell h, g7]
    have j9 : ∀ p j, gJ M9 p j = gJ M p j := fun p j => by rw [e9, gJ_sI, j7, a1.2.2.1]
    have C9 : CTg M9 dr T' := C1.eq (fun p j h => g9 p j (by omega))
    have z1 : ∀ p, (4 ≤ p ∧ p ≤ 10) → gI M9 p 0 = gI M p 0 := fun p h => by rw [g9 p 0 (by omega), a1.2.2.2 p 0 (fun q => by unfold PC at q; omega)]
    obtain ⟨z5, z6, z7, z8, z10, z9⟩ := hS.2.2.2.2.2
    have R9 : RVA M9 T' 0 [] := rva0 ⟨by rw [z1 5 (by decide)]; exact z5, by rw [z1 6 (by decide)]; exact z6, by rw [z1 7 (by decide)]; exact z7, by rw [z1 8 (by decide)]; exact z8, by rw [z1 10 (by decide)]; exact z10, by rw [j9]; exact z9⟩
    obtain ⟨M12, f12, a12', S12⟩ := c_fill L9 hdr hT1 C9 R9 (by rw [z1 4 (by decide), hS.2.1 0 (by decide), not_L0]; rfl)
    have L12 := L9.agg a12'
    obtain ⟨M14, e14⟩ : ∃ N, N = sI M12 16 1 0 := ⟨_, rfl⟩
    have L14 : LAY M14 dr sp := by rw [e14]; exact L12.si
    obtain ⟨M15, e15⟩ : ∃ N, N = sI M14 19 2 0 := ⟨_, rfl⟩
    have L15 : LAY M15 dr sp := by rw [e15]; exact L14.si
    obtain ⟨M16, e16⟩ : ∃ N, N = sI M15 21 2 0 := ⟨_, rfl⟩
    have L16 : LAY M16 dr sp := by rw [e16]; exact L15.si
    have A16 : AgP M12 M16 (fun p j => (p = 16 ∧ j = 1) ∨ ((p = 19 ∨ p = 21) ∧ j = 2)) := by
      rw [e16, e15, e14]
      exact ((AgP.rf.sI (Or.inl ⟨rfl, rfl⟩)).sI (Or.inr ⟨Or.inl rfl, rfl⟩)).sI (Or.inr ⟨Or.inr rfl, rfl⟩)
    have C16 : CTg M16 dr T' := (C9.agg a12' ⟨hT1.1, hT1.2.1⟩ (PSY.tg hdr)).agg A16.g ⟨hT1.1, hT1.2.1⟩ (fun p j h1 _ q => by omega)
    have f6 : f_X6_tongue M 0 = some (nI (tNw T' + tNs T'), M16) := by
      have s0 : z_X6_tongue_72 M14 0 0 = some (.inr (1, M15)) := by
        unfold z_X6_tongue_72
        rw [if_neg (by decide), o_f L14, ly_0_3 L14, Option.bind_some, show aR M14 18 11 0 = some 19 from (aR_e (i := 0) L14.1 (by decide) rfl (by rw [lnv_18]; decide)).trans (ly_18_0 L14), Option.bind_some, wfZ_e L14.1 (by decide) rfl (Or.inl rfl), Option.bind_some, ← e15]
        rfl
      have s1 : z_X6_tongue_72 M15 0 1 = some (.inr (2, M16)) := by
        unfold z_X6_tongue_72
        rw [if_neg (by decide), o_f L15, ly_0_3 L15, Option.bind_some, show aR M15 18 11 1 = some 21 from (aR_e (i := 1) L15.1 (by decide) rfl (by rw [lnv_18]; decide)).trans (ly_18_1 L15), Option.bind_some, wfZ_e L15.1 (by decide) rfl (Or.inl rfl), Option.bind_some, ← e16]
        rfl
      have s2 : z_X6_tongue_72 M16 0 2 = some (.inl (nI (tNw T' + tNs T'), M16)) := by
        unfold z_X6_tongue_72
        rw [if_pos (by decide), o_f L16, ly_0_4 L16, Option.bind_some, tg_f L16 hdr, Option.bind_some, Option.bind_some, tg_f L16 hdr, Option.bind_some, C16.1, C16.2.1, nI_add]
        rfl
      have hl : lp (fun t => z_X6_tongue_72 t.2 0 t.1) FU (0, M14) = some (nI (tNw T' + tNs T'), M16) := (lp_e (n := 3999) (t := (1, M15)) s0).trans ((lp_e (n := 3998) (t := (2, M16)) s1).trans (lp_l (n := 3997) s2))
      unfold f_X6_tongue
      rw [if_pos (by rw [L.1]; decide), r5, Option.bind_some, r0 L, Option.bind_some, f1, Option.bind_some, if_pos a1.1, if_neg (show ¬ ((1 : Int32), M1).1 = 0 by show ¬ (1 : Int32) = 0; decide), o_f L1, ly_0_4 L1, Option.bind_some, o_f L1, ly_0_5 L1, Option.bind_some, wfR_e L1.1 (by decide) rfl (show dr < 93 by omega), Option.bind_some, wfR_e (M := sR M1 0 4 (some dr)) L1.1 (by decide) rfl (show sp < 93 by omega), Option.bind_some, ← e7, r0 L7, Option.bind_some, wtf L7, Option.bind_some, ← e9, o_f L9, ly_0_1 L9, Option.bind_some, o_f L9, ly_0_4 L9, Option.bind_some, f12, Option.bind_some, if_pos a12'.1, o_f L12, ly_0_2 L12, Option.bind_some, wfI_e L12.1 (by decide) rfl, Option.bind_some, ← e14]
      exact hl
    have gt : ∀ p j, 81 ≤ p → gI M16 p j = gI M p j := fun p j h => by
      rw [A16.2.2.2 p j (fun q => by omega), a12'.2.2.2 p j (fun q => by unfold PSY at q; omega), g9 p j (by omega), a1.2.2.2 p j (fun q => by unfold PC at q; omega)]
    have hm := m_reads (B := B) (n := n) L16 ⟨by rw [gt 81 2 (by decide)]; exact x2, fun i hi => by rw [gt 82 i (by decide)]; exact X2.2 i hi⟩ hn
    rw [hp] at hm
    obtain ⟨M2, f2, a2, H2, g2⟩ := hm
    have L2 := L16.agp a2
    obtain ⟨M3, f3, a3, H3, K3, k85, k870, k871, k81⟩ := m_tail (v := tNw T' + tNs T') hT1 110 FU 0 M2 rfl (show 110 < 4000 by decide) L2 H2 g2 (fun j hj => absurd hj (Nat.not_lt_zero j))
    have A3 : AgP M16 M3 (fun p _ => 81 ≤ p) := (a2.mono (fun p j q => by unfold PR PU at q; omega)).tr (a3.mono (fun p j q => by unfold PLS at q; omega))
    have e3 : ∀ p j, p < 81 → gI M3 p j = gI M16 p j := fun p j h => A3.2.2.2 p j (by omega)
    have n12 : ∀ p j, 16 ≤ p ∨ p = 1 → gI M12 p j = gI M9 p j := fun p j h => a12'.2.2.2 p j (fun q => by unfold PSY at q; omega)
    have k16 : gI M3 16 1 = 0 := by rw [e3 16 1 (by decide), e16, gp_cell (by decide), e15, gp_cell (by decide), e14, gp_same]
    have k19 : gI M3 19 2 = 0 := by rw [e3 19 2 (by decide), e16, gp_cell (by decide), e15, gp_same]
    have k21 : gI M3 21 2 = 0 := by rw [e3 21 2 (by decide), e16, gp_same]
    have k11 : gI M3 1 1 = 0 := by rw [e3 1 1 (by decide), A16.2.2.2 1 1 (fun q => by omega), n12 1 1 (Or.inr rfl), e9, gp_same]
    have jj : ∀ p j, p = 0 ∨ p = 81 → gJ M3 p j = gJ M p j := fun p j h => by
      rw [A3.2.2.1, A16.2.2.1, a12'.2.2.1 p j (fun q => by unfold PSY at q; omega), j9]
    refine ⟨nI (tNw T' + tNs T'), M16, M3, T', dr, sp, f6, ?_, ?_, A3.1, L16.agp A3, hT1, C16.agg A3.g ⟨hT1.1, hT1.2.1⟩ (fun p j h1 h2 q => by omega), K3, (S12.agg A16.g (fun p j h1 h2 _ q => by omega)).agg A3.g (fun p j h1 h2 _ q => by omega), H3, ⟨0, by decide, k11, k81, fun i hi => absurd hi (Nat.not_lt_zero i)⟩, ⟨0, by decide, k16, k85, fun i hi => absurd hi (Nat.not_lt_zero i)⟩, ⟨k870.trans k19.symm, Or.inl k870⟩, ⟨k871.trans k21.symm, Or.inl k871⟩, ?_⟩
    · rw [L16.1, L.1]
    · unfold f_X7_tongue
      rw [if_pos (r81 L16), f2, Option.bind_some, if_pos a2.1, if_neg (show ¬ ((1 : Int32), M2).1 = 0 by show ¬ (1 : Int32) = 0; decide)]
      exact f3
    · rw [jj 0 6 (Or.inl rfl), jj 81 0 (Or.inr rfl)]
      exact hJ
