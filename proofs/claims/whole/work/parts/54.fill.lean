/-! PURE: fill -/
def FIn (M : MM) (T : TG) (l : Nat) : Prop := RVA M T 0 [] ∧ gI M 4 0 = 0 ∧ (∀ x, x < l → gI M 4 x = b2i (isL T x) ∧ (isRow T x = true → RVA M T x (dg x)) ∧ (isRow T x = false → gI M 5 x = 0)) ∧ gI M 3 9 = nI (LB T l).length ∧ (∀ s, s < 256 → gI M 12 s = nI ((LB T l).filter fun x => decide (stL T x = s)).length) ∧ ∃ g B N G, GM M (LB T l) g B N G ∧ GI T (LB T l) g B N G
def PSY (p j : Nat) : Prop := (p = 3 ∧ (j = 9 ∨ j = 13)) ∨ (4 ≤ p ∧ p ≤ 15)
theorem PSY.tg {t : Nat} (ht : t = 23 ∨ t = 52) : ∀ p j, t ≤ p → p < t + 29 → ¬ PSY p j := fun p j h1 _ h => by
  unfold PSY at h
  omega
theorem a12 {M : MM} {sp dr j : Nat} (L : LAY M sp dr) (hj : j < 256) : aI M 12 (nI j) = some (gI M 12 j) := aI_e L.1 (by decide) rfl (by rw [lnv_12]; exact hj)
theorem w12 {M : MM} {sp dr j : Nat} {v : Int32} (L : LAY M sp dr) (hj : j < 256) : waI M 12 (nI j) v = some (sI M 12 j v) := waI_e L.1 (by decide) rfl (by rw [lnv_12]; exact hj)
theorem FIn.no {M M' : MM} {T : TG} {l : Nat} (h : FIn M T l) (h1 : 1 ≤ l) (a : AgG M M' (PF l)) (k4 : gI M' 4 l = b2i (isL T l)) (kr : isRow T l = true → RVA M' T l (dg l)) (kn : isRow T l = false → gI M' 5 l = 0) : RVA M' T 0 [] ∧ gI M' 4 0 = 0 ∧ (∀ x, x < l + 1 → gI M' 4 x = b2i (isL T x) ∧ (isRow T x = true → RVA M' T x (dg x)) ∧ (isRow T x = false → gI M' 5 x = 0)) ∧ gI M' 3 9 = nI (LB T l).length ∧ (∀ s, s < 256 → gI M' 12 s = nI ((LB T l).filter fun x => decide (stL T x = s)).length) ∧ ∃ g B N G, GM M' (LB T l) g B N G ∧ GI T (LB T l) g B N G := by
  obtain ⟨p1, p2, p3, p4, p5, g, B, N, G, p6, p7⟩ := h
  have e : ∀ p j, ¬ PF l p j → gI M' p j = gI M p j := a.2.2.2
  refine ⟨p1.agg a (fun p q => by unfold PF at q; omega), by rw [e 4 0 (fun q => by unfold PF at q; omega)]; exact p2, fun x hx => ?_, by rw [e 3 9 (fun q => by unfold PF at q; omega)]; exact p4, fun s hs => by rw [e 12 s (fun q => by unfold PF at q; omega)]; exact p5 s hs, g, B, N, G, p6.agg a (fun p j q r => by unfold PF at q; unfold PG at r; omega), p7⟩
  by_cases hxl : x = l
  · rw [hxl]
    exact ⟨k4, kr, kn⟩
  · obtain ⟨r1, r2, r3⟩ := p3 x (by omega)
    have hn : ∀ p, ¬ PF l p x := fun p q => hxl q.2.2
    exact ⟨by rw [e 4 x (hn 4)]; exact r1, fun h => (r2 h).agg a hn, fun h => by rw [e 5 x (hn 5)]; exact r3 h⟩
theorem c_34 {T : TG} {sp dr t : Nat} (ht : t = 23 ∨ t = 52) (hT : TOK T) : ∀ d fuel l M, l + d = 1000 → 1 ≤ l → d < fuel → LAY M sp dr → CTg M t T → FIn M T l → ∃ M', lp (fun q => z_X1_fill_34 q.2 3 t q.1) fuel (nI l, M) = lp (fun q => z_X1_fill_94 q.2 3 q.1) FU (1, M') ∧ AgG M M' PSY ∧ FIn M' T 1000 := by
  have hw9 := hT.1
  have hs4 := hT.2.1
  intro d
  induction d with
  | zero =>
    intro fuel l M hl h1 hf L hC hF
    obtain ⟨fuel, rfl⟩ : ∃ m, fuel = m + 1 := ⟨fuel - 1, by omega⟩
    obtain rfl : l = 1000 := by omega
    refine ⟨M, lp_m ?_, AgG.rf, hF⟩
    show z_X1_fill_34 M 3 t (nI 1000) = _
    unfold z_X1_fill_34
    rw [if_pos (by decide)]
  | succ d ih =>
    intro fuel l M hl h1 hf L hC hF
    obtain ⟨fuel, rfl⟩ : ∃ m, fuel = m + 1 := ⟨fuel - 1, by omega⟩
    have hl1 : l < 1000 := by omega
    have c1 : ¬ (1000 : Int32) ≤ nI l := fun e => by have := (nI_leI (a := 1000) (by decide) (by omega)).mp e; omega
    obtain ⟨M1, f1, a1, k4, kr, kn⟩ := c_fillRow L ht hT hC h1 hl1 hF.1 (fun h10 => (hF.2.2.1 (l / 10) (by omega)).2)
    have L1 := L.agg a1
    have C1 := hC.agg a1 ⟨hw9, hs4⟩ (PF.tg ht)
    have A1 : AgG M M1 PSY := a1.mono (fun p j h => by unfold PF at h; unfold PSY; omega)
    obtain ⟨p1, p2, p3, p4, p5, g, B, N, G, p6, p7⟩ := hF.no h1 a1 k4 kr kn
    cases hL : isL T l with
    | false =>
      rw [hL] at k4
      obtain ⟨M', f', a', h'⟩ := ih fuel (l + 1) M1 (by omega) (by omega) (by omega) L1 C1 ⟨p1, p2, p3, by rw [LB_no hL]; exact p4, by rw [LB_no hL]; exact p5, g, B, N, G, by rw [LB_no hL]; exact p6, by rw [LB_no hL]; exact p7⟩
      refine ⟨M', ?_, A1.tr a', h'⟩
      rw [lp_e (t := (nI (l + 1), M1))]
      · exact f'
      · show z_X1_fill_34 M 3 t (nI l) = _
        unfold z_X1_fill_34 j_X1_fill_86
        rw [if_neg c1, f1, Option.bind_some, if_pos a1.1, q4 L1, Option.bind_some, az4 L1 hl1, Option.bind_some, k4, if_pos (show b2i false = 0 from rfl), nI_1]
    | true =>
      rw [hL] at k4
      have hrl := isL_row hL
      have hst := stL_lt (T := T) (l := l)
      have h10 : gI M1 10 l = nI (stL T l) := (kr hrl).2.2.2.2.2
      have hP : ∀ p j, (p = 3 ∧ j = 9) ∨ p = 12 → PSY p j := fun p j h => by unfold PSY; omega
      have A2 : AgP M1 (sI (sI M1 3 9 (nI ((LB T l).length + 1))) 12 (stL T l) (nI (((LB T l).filter fun x => decide (stL T x = stL T l)).length + 1))) (fun p j => (p = 3 ∧ j = 9) ∨ p = 12) := (AgP.rf.sI (Or.inl ⟨rfl, rfl⟩)).sI (Or.inr rfl)
      have e12 : ∀ s, s < 256 → gI (sI (sI M1 3 9 (nI ((LB T l).length + 1))) 12 (stL T l) (nI (((LB T l).filter fun x => decide (stL T x = stL T l)).length + 1))) 12 s = nI ((LB T (l + 1)).filter fun x => decide (stL T x = s)).length := by
        intro s hs
        rw [LB_yes hL, List.filter_append, List.length_append]
        by_cases e : s = stL T l
        · rw [e, gp_same]
          simp
        · rw [gp_oth e, gp_cell (by decide), p5 s hs]
          have : ¬ stL T l = s := fun q => e q.symm
          simp [this]
      have e9 : gI (sI (sI M1 3 9 (nI ((LB T l).length + 1))) 12 (stL T l) (nI (((LB T l).filter fun x => decide (stL T x = stL T l)).length + 1))) 3 9 = nI (LB T (l + 1)).length := by
        rw [gp_cell (by decide), gp_same, LB_yes hL, List.length_append]
        rfl
      have ez : z_X1_fill_34 M 3 t (nI l) = ((f_X1_putIntoGroup (sI (sI M1 3 9 (nI ((LB T l).length + 1))) 12 (stL T l) (nI (((LB T l).filter fun x => decide (stL T x = stL T l)).length + 1))) 3 (nI l)).bind fun M11 => if M11.1 = (sI (sI M1 3 9 (nI ((LB T l).length + 1))) 12 (stL T l) (nI (((LB T l).filter fun x => decide (stL T x = stL T l)).length + 1))).1 then some (.inr (nI (l + 1), M11)) else none) := by
        unfold z_X1_fill_34 j_X1_fill_86
        rw [if_neg c1, f1, Option.bind_some, if_pos a1.1, q4 L1, Option.bind_some, az4 L1 hl1, Option.bind_some, k4, if_neg (show ¬ b2i true = 0 by decide), s3f L1, Option.bind_some, p4, nI_1, w3f L1, Option.bind_some, q12 L1.si, Option.bind_some, q10 L1.si, Option.bind_some, ai3 L1.si R10 hl1, Option.bind_some, gp_cell (show ¬ 10 = 3 by decide), h10, a12 L1.si hst, Option.bind_some, gp_cell (show ¬ 12 = 3 by decide), p5 _ hst, nI_1, w12 L1.si hst, Option.bind_some]
        simp only [nI_1]
      have L2 := L1.agp A2
      generalize sI (sI M1 3 9 (nI ((LB T l).length + 1))) 12 (stL T l) (nI (((LB T l).filter fun x => decide (stL T x = stL T l)).length + 1)) = M2 at A2 e12 e9 ez L2
      have i2 : ∀ p j, ¬ p = 3 → ¬ p = 12 → gI M2 p j = gI M1 p j := fun p j h3 h12 => A2.2.2.2 p j (fun q => by omega)
      obtain ⟨M3, g', B', N', G', f3, a3, m3, k3⟩ := c_put L2 hT hl1 hL (fun x hx => by
        have q := List.mem_filter.mp hx
        have r := List.mem_range.mp q.1
        refine ⟨?_, r, q.2⟩
        rcases Nat.eq_zero_or_pos x with z | z
        · have := q.2
          rw [z, not_L0] at this
          cases this
        · exact z) (Nat.le_trans (LB_le (show l ≤ 1000 by omega)) Lt_819) (fun x hx hr => by
        have q := (p3 x (by omega)).2.1 hr
        exact ⟨by rw [i2 6 x (by decide) (by decide)]; exact q.2.1, by rw [A2.2.2.1 9 x]; exact q.2.2.2.2.1⟩) (p6.agg A2.g (fun p j q r => by unfold PG at r; omega)) p7
      have A3 : AgG M1 M3 (fun p j => PG p j ∨ (p = 3 ∧ j = 9) ∨ p = 12) := (A2.g.mono (fun p j h => Or.inr h)).tr (a3.g.mono (fun p j h => Or.inl h))
      have i3 : ∀ p j, 4 ≤ p → p ≤ 10 → gI M3 p j = gI M1 p j := fun p j h4 h10 => A3.2.2.2 p j (fun q => by unfold PG at q; omega)
      have nP : ∀ x p, (4 ≤ p ∧ p ≤ 10) → ¬ (PG p x ∨ (p = 3 ∧ x = 9) ∨ p = 12) := fun x p h q => by unfold PG at q; omega
      have rv : ∀ x A, RVA M1 T x A → RVA M3 T x A := fun x A h => by
        have e2 : gJ M3 9 x = gJ M1 9 x := A3.2.2.1 9 x (nP x 9 ⟨by decide, by decide⟩)
        unfold RVA at h ⊢
        rw [i3 5 x (by decide) (by decide), i3 6 x (by decide) (by decide), i3 7 x (by decide) (by decide), i3 8 x (by decide) (by decide), i3 10 x (by decide) (by decide), e2]
        exact h
      obtain ⟨M', f', a', h'⟩ := ih fuel (l + 1) M3 (by omega) (by omega) (by omega) (L1.agg A3) (C1.agg A3 ⟨hw9, hs4⟩ (fun p j h1 _ q => by unfold PG at q; omega)) ⟨rv 0 [] p1, by rw [i3 4 0 (by decide) (by decide)]; exact p2, fun x hx => ⟨by rw [i3 4 x (by decide) (by decide)]; exact (p3 x hx).1, fun h => rv x _ ((p3 x hx).2.1 h), fun h => by rw [i3 5 x (by decide) (by decide)]; exact (p3 x hx).2.2 h⟩, by rw [a3.2.2.2 3 9 (fun q => by unfold PG at q; omega)]; exact e9, fun s hs => by rw [a3.2.2.2 12 s (fun q => by unfold PG at q; omega)]; exact e12 s hs, g', B', N', G', by rw [LB_yes hL]; exact m3, by rw [LB_yes hL]; exact k3⟩
      refine ⟨M', ?_, (A1.tr (A3.mono (fun p j h => by unfold PG at h; unfold PSY; omega))).tr a', h'⟩
      rw [lp_e (t := (nI (l + 1), M3))]
      · exact f'
      · show z_X1_fill_34 M 3 t (nI l) = _
        rw [ez, f3, Option.bind_some, if_pos a3.1]
theorem c_94 {T : TG} {sp dr g : Nat} {B N G : Nat → Nat} (hI : GI T (Lt T) g B N G) : ∀ d fuel l M, l + d = 1000 → 1 ≤ l → d < fuel → LAY M sp dr → (∀ x, x < 1000 → gI M 4 x = b2i (isL T x)) → GM M (Lt T) g B N G → (∀ x, x < l → isL T x = true → gI M 11 x = nI (best0 T x)) → ∃ M', lp (fun q => z_X1_fill_94 q.2 3 q.1) fuel (nI l, M) = some M' ∧ AgP M M' (fun p _ => p = 11) ∧ ∀ x, x < 1000 → isL T x = true → gI M' 11 x = nI (best0 T x) := by
  have hgl := hI.1
  have h819 := Lt_819 (T := T)
  intro d
  induction d with
  | zero =>
    intro fuel l M hl h1 hf L h4 hM hb
    obtain ⟨fuel, rfl⟩ : ∃ m, fuel = m + 1 := ⟨fuel - 1, by omega⟩
    obtain rfl : l = 1000 := by omega
    refine ⟨M, lp_l ?_, AgP.rf, hb⟩
    show z_X1_fill_94 M 3 (nI 1000) = _
    unfold z_X1_fill_94
    rw [if_pos (by decide)]
  | succ d ih =>
    intro fuel l M hl h1 hf L h4 hM hb
    obtain ⟨fuel, rfl⟩ : ∃ m, fuel = m + 1 := ⟨fuel - 1, by omega⟩
    have hl1 : l < 1000 := by omega
    have c1 : ¬ (1000 : Int32) ≤ nI l := fun e => by have := (nI_leI (a := 1000) (by decide) (by omega)).mp e; omega
    have hv := h4 l hl1
    cases hL : isL T l with
    | false =>
      rw [hL] at hv
      obtain ⟨M', f', a', h'⟩ := ih fuel (l + 1) M (by omega) (by omega) (by omega) L h4 hM (fun x hx hLx => hb x (by
        rcases Nat.lt_succ_iff_lt_or_eq.mp hx with q | q
        · exact q
        · rw [q, hL] at hLx
          cases hLx) hLx)
      refine ⟨M', ?_, a', h'⟩
      rw [lp_e (t := (nI (l + 1), M))]
      · exact f'
      · show z_X1_fill_94 M 3 (nI l) = _
        unfold z_X1_fill_94 j_X1_fill_148
        rw [if_neg c1, q4 L, Option.bind_some, az4 L hl1, Option.bind_some, hv, if_pos (show b2i false = 0 from rfl), nI_1]
    | true =>
      rw [hL] at hv
      have hlm : l ∈ Lt T := Lt_mem.mpr ⟨hl1, hL⟩
      have hG := (hI.2.2.2 l hlm).1
      have hbest := hI.best hlm (show ¬ l = 0 by omega)
      have hBm := Lt_mem.mp (hI.2.1 _ hG).1
      obtain ⟨m13, m14⟩ := hM.2.1 _ hG
      have a : AgP M (sI M 11 l (nI (best0 T l))) (fun p _ => p = 11) := AgP.rf.sI rfl
      have L' : LAY (sI M 11 l (nI (best0 T l))) sp dr := L.agp a
      obtain ⟨M', f', a', h'⟩ := ih fuel (l + 1) (sI M 11 l (nI (best0 T l))) (by omega) (by omega) (by omega) L' (fun x hx => by rw [gp_cell (by decide)]; exact h4 x hx) (hM.agg a.g (fun p j q r => by unfold PG at r; omega)) (fun x hx hLx => by
        by_cases e : x = l
        · rw [e, gp_same]
        · rw [gp_oth e]
          exact hb x (by omega) hLx)
      refine ⟨M', ?_, a.tr a', h'⟩
      rw [lp_e (t := (nI (l + 1), sI M 11 l (nI (best0 T l))))]
      · exact f'
      · show z_X1_fill_94 M 3 (nI l) = _
        have hc : (nI (B (G l)) = nI l) ↔ B (G l) = l := nI_eq (by omega) (by omega)
        unfold z_X1_fill_94 j_X1_fill_147 j_X1_fill_148
        rw [if_neg c1, q4 L, Option.bind_some, az4 L hl1, Option.bind_some, hv, if_neg (show ¬ b2i true = 0 by decide), q15 L, Option.bind_some, ai3 L R15 hl1, Option.bind_some, hM.2.2 l hlm, q11 L, Option.bind_some, q13 L, Option.bind_some, ai3 L R13 (by omega), Option.bind_some, m13]
        by_cases e : B (G l) = l
        · rw [if_pos e] at hbest
          rw [if_pos (hc.mpr e), q14 L, Option.bind_some, ai3 L R14 (by omega), Option.bind_some, m14, ← hbest, wi3 L R11 hl1, Option.bind_some, nI_1]
        · rw [if_neg e] at hbest
          rw [if_neg (fun q => e (hc.mp q)), Option.bind_some, ai3 L R13 (by omega), Option.bind_some, m13, ← hbest, wi3 L R11 hl1, Option.bind_some, nI_1]
theorem c_fill {M : MM} {T : TG} {sp dr t : Nat} (L : LAY M sp dr) (ht : t = 23 ∨ t = 52) (hT : TOK T) (hC : CTg M t T) (h0 : RVA M T 0 []) (h40 : gI M 4 0 = 0) : ∃ M', f_X1_fill M 3 t = some M' ∧ AgG M M' PSY ∧ SAY M' T := by
  have hw9 := hT.1
  have hs4 := hT.2.1
  have key : ∀ d fuel s M, s + d = 256 → d < fuel → LAY M sp dr → (∀ x, x < s → gI M 12 x = 0) → ∃ M', lp (fun q => z_X1_fill_2 q.2 3 t q.1) fuel (nI s, M) = lp (fun q => z_X1_fill_34 q.2 3 t q.1) FU (1, M') ∧ AgP M M' (fun p j => p = 12 ∨ (p = 3 ∧ (j = 9 ∨ j = 13))) ∧ (∀ x, x < 256 → gI M' 12 x = 0) ∧ gI M' 3 9 = 0 ∧ gI M' 3 13 = 0 := by
    intro d
    induction d with
    | zero =>
      intro fuel s M hs hf L h
      obtain ⟨fuel, rfl⟩ : ∃ m, fuel = m + 1 := ⟨fuel - 1, by omega⟩
      obtain rfl : s = 256 := by omega
      refine ⟨sI (sI M 3 9 0) 3 13 0, lp_m ?_, (AgP.rf.sI (Or.inr ⟨rfl, Or.inl rfl⟩)).sI (Or.inr ⟨rfl, Or.inr rfl⟩), fun x hx => by rw [gp_cell (by decide), gp_cell (by decide)]; exact h x hx, by rw [gp_oth (by decide), gp_same], gp_same⟩
      show z_X1_fill_2 M 3 t (nI 256) = _
      unfold z_X1_fill_2
      rw [if_pos (by decide), w3f L, Option.bind_some, w3f L.si, Option.bind_some]
    | succ d ih =>
      intro fuel s M hs hf L h
      obtain ⟨fuel, rfl⟩ : ∃ m, fuel = m + 1 := ⟨fuel - 1, by omega⟩
      have a : AgP M (sI M 12 s 0) (fun p j => p = 12 ∨ (p = 3 ∧ (j = 9 ∨ j = 13))) := AgP.rf.sI (Or.inl rfl)
      obtain ⟨M', f', a', h'⟩ := ih fuel (s + 1) (sI M 12 s 0) (by omega) (by omega) (L.agp a) (fun x hx => by
        by_cases e : x = s
        · rw [e, gp_same]
        · rw [gp_oth e]
          exact h x (by omega))
      refine ⟨M', ?_, a.tr a', h'⟩
      rw [lp_e (t := (nI (s + 1), sI M 12 s 0))]
      · exact f'
      · show z_X1_fill_2 M 3 t (nI s) = _
        unfold z_X1_fill_2
        rw [if_neg (fun e => by have := (nI_leI (a := 256) (by decide) (by omega)).mp e; omega), q12 L, Option.bind_some, w12 L (by omega), Option.bind_some, nI_1]
  obtain ⟨M1, f1, a1, k12, k9, k13⟩ := key 256 FU 0 M (by omega) (show 256 < 4000 by decide) L (fun x hx => absurd hx (Nat.not_lt_zero x))
  have A1 : AgG M M1 PSY := a1.g.mono (fun p j h => by unfold PSY; omega)
  have L1 := L.agp a1
  have e1 : ∀ p j, ¬ p = 3 → ¬ p = 12 → gI M1 p j = gI M p j := fun p j h3 h12 => a1.2.2.2 p j (fun q => by omega)
  have R1 : RVA M1 T 0 [] := by
    unfold RVA at h0 ⊢
    rw [e1 5 0 (by decide) (by decide), e1 6 0 (by decide) (by decide), e1 7 0 (by decide) (by decide), e1 8 0 (by decide) (by decide), e1 10 0 (by decide) (by decide), a1.2.2.1 9 0]
    exact h0
  obtain ⟨M2, f2, a2, p1, p2, p3, p4, p5, g, B, N, G, p6, p7⟩ := c_34 (T := T) ht hT 999 FU 1 M1 rfl (by decide) (show 999 < 4000 by decide) L1 (hC.agg A1 ⟨hw9, hs4⟩ (PSY.tg ht)) ⟨R1, by rw [e1 4 0 (by decide) (by decide)]; exact h40, fun x hx => by
    obtain rfl : x = 0 := by omega
    refine ⟨by rw [e1 4 0 (by decide) (by decide), h40, not_L0]; rfl, fun h => absurd h (by rw [not_row0]; decide), fun _ => ?_⟩
    exact R1.1, by rw [k9, LB_one]; rfl, fun s hs => by rw [k12 s hs, LB_one]; rfl, 0, fun _ => 0, fun _ => 0, fun _ => 0, ⟨by rw [k13]; rfl, fun k hk => absurd hk (Nat.not_lt_zero k), fun m hm => by rw [LB_one] at hm; cases hm⟩, ⟨Nat.zero_le _, fun k hk => absurd hk (Nat.not_lt_zero k), fun k j hk => absurd hk (Nat.not_lt_zero k), fun m hm => by rw [LB_one] at hm; cases hm⟩⟩
  rw [LB_all] at p4 p6 p7
  have p5' : ∀ s, s < 256 → gI M2 12 s = nI ((Lt T).filter fun x => decide (stL T x = s)).length := fun s hs => by rw [p5 s hs, LB_all]
  obtain ⟨M3, f3, a3, p8⟩ := c_94 p7 999 FU 1 M2 rfl (by decide) (show 999 < 4000 by decide) (L1.agg a2) (fun x hx => (p3 x hx).1) p6 (fun x hx h => by
    obtain rfl : x = 0 := by omega
    rw [not_L0] at h
    cases h)
  have e3 : ∀ p j, ¬ p = 11 → gI M3 p j = gI M2 p j := a3.2.2.2
  refine ⟨M3, ?_, (A1.tr a2).tr (a3.g.mono (fun p j h => by unfold PSY; omega)), by rw [e3 3 9 (by decide)]; exact p4, fun l hl => by rw [e3 4 l (by decide)]; exact (p3 l hl).1, fun l hl hr => ?_, p8, fun s hs => by rw [e3 12 s (by decide)]; exact p5' s hs, ?_⟩
  · unfold f_X1_fill
    rw [if_pos (r3m L)]
    exact f1.trans (f2.trans f3)
  · obtain ⟨r5, r6, r7, r8, r9, r10⟩ := (p3 l hl).2.1 hr
    exact ⟨by rw [e3 5 l (by decide)]; exact r5, by rw [e3 6 l (by decide)]; exact r6, by rw [e3 7 l (by decide)]; exact r7, by rw [e3 8 l (by decide)]; exact r8, by rw [a3.2.2.1 9 l]; exact r9, by rw [e3 10 l (by decide)]; exact r10⟩
  · obtain ⟨r5, r6, r7, r8, r9, r10⟩ := p1
    refine ⟨by rw [e3 5 0 (by decide)]; exact r5, by rw [e3 6 0 (by decide)]; exact r6, by rw [e3 7 0 (by decide)]; exact r7, by rw [e3 8 0 (by decide)]; exact r8, by rw [e3 10 0 (by decide), r10]; simp [stF, pk, n00], by rw [a3.2.2.1 9 0, r9]; simp [pk]; rfl⟩
