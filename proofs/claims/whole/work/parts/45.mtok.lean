/-! PURE: tokens, reference side -/
theorem sI_id {M : MM} {p j : Nat} {v : Int32} (h : gI M p j = v) : sI M p j v = M := by
  obtain ⟨a, b, c⟩ := M
  unfold sI
  congr 1
  congr 1
  funext x y
  dsimp only
  by_cases hx : x = p ∧ y = j
  · rw [if_pos hx, hx.1, hx.2]
    exact h.symm
  · rw [if_neg hx]
def PU (p j : Nat) : Prop := p = 81 ∧ 13 ≤ j ∧ j ≤ 16
def PR (p j : Nat) : Prop := PU p j ∨ p = 84
def RX (M : MM) (B : Nat → Nat) (n : Nat) : Prop := gI M 81 2 = nI n ∧ ∀ i, i < n → gI M 82 i = nI (B i) ∧ B i < 256
theorem RX.agp {M M' : MM} {P : Nat → Nat → Prop} {B : Nat → Nat} {n : Nat} (h : RX M B n) (a : AgP M M' P) (h1 : ¬ P 81 2) (h2 : ∀ j, ¬ P 82 j) : RX M' B n :=
  ⟨by rw [a.2.2.2 81 2 h1]; exact h.1, fun i hi => by rw [a.2.2.2 82 i (h2 i)]; exact h.2 i hi⟩
theorem RX.pr {M M' : MM} {B : Nat → Nat} {n : Nat} (h : RX M B n) (a : AgP M M' PR) : RX M' B n := h.agp a (fun e => by unfold PR PU at e; omega) (fun j e => by unfold PR PU at e; omega)
theorem RX.pu {M M' : MM} {B : Nat → Nat} {n : Nat} (h : RX M B n) (a : AgP M M' PU) : RX M' B n := h.pr (a.mono (fun _ _ h => Or.inl h))
theorem mf {M : MM} {sp dr : Nat} (L : LAY M sp dr) (k : Nat) : fI M 81 7 k = some (gI M 81 k) := fI_e L.1 (by decide) rfl
theorem wmf {M : MM} {sp dr : Nat} (L : LAY M sp dr) (k : Nat) (v : Int32) : wfI M 81 7 k v = some (sI M 81 k v) := wfI_e L.1 (by decide) rfl
theorem r81 {M : MM} {sp dr : Nat} (L : LAY M sp dr) : 81 < M.1 ∧ kd 81 = 7 := by rw [L.1]; decide
theorem gp_same {M : MM} {p j : Nat} {v : Int32} : gI (sI M p j v) p j = v := by rw [gI_sI, if_pos ⟨rfl, rfl⟩]
theorem gp_oth {M : MM} {p j k : Nat} {v : Int32} (h : ¬ k = j) : gI (sI M p j v) p k = gI M p k := by rw [gI_sI, if_neg (fun e => h e.2)]
theorem gp_cell {M : MM} {p q j k : Nat} {v : Int32} (h : ¬ q = p) : gI (sI M p j v) q k = gI M q k := by rw [gI_sI, if_neg (fun e => h e.1)]
def byt (B : Nat → Nat) (n i : Nat) : Int32 := if i < n then nI (B i) else -1
def sk (B : Nat → Nat) (n i : Nat) : Nat := if i < n then kof (B i) else 0
theorem m_byte {M : MM} {sp dr n i : Nat} {B : Nat → Nat} (L : LAY M sp dr) (X : RX M B n) (hn : n ≤ 200) (hi : i < 1000) : f_X7_byteAt M 81 (nI i) = some (byt B n i) := by
  unfold f_X7_byteAt byt
  rw [if_pos (r81 L), mf L, Option.bind_some, X.1]
  by_cases h : i < n
  · have r := fR_e (p := 81) (c := 7) (k := 1) L.1 (by decide) rfl
    rw [ly_81_1 L] at r
    rw [if_pos h, if_neg (fun e => by have := (nI_leI (by omega) (by omega)).mp e; omega), r, Option.bind_some, aI_e (p := 82) L.1 (by decide) rfl (by rw [lnv_82]; omega), (X.2 i h).1, Option.bind_some]
  · rw [if_neg h, if_pos ((nI_leI (by omega) (by omega)).mpr (by omega))]
theorem m_in_k {M : MM} {b lo hi : Nat} (hb : b < 256) (h1 : lo < 256) (h2 : hi < 256) : f_X7_in M (nI b) (nI lo) (nI hi) = some (if lo ≤ b ∧ b ≤ hi then 1 else 0) := m_in (by omega) (by omega) (by omega)
theorem m_sort {M : MM} {n i : Nat} {B : Nat → Nat} (hB : i < n → B i < 256) : f_X7_sortOf M (byt B n i) = some (nI (sk B n i)) := by
  unfold f_X7_sortOf byt sk
  by_cases h : i < n
  · have hb := hB h
    rw [if_pos h, if_pos h, if_pos (show (0 : Int32) ≤ nI (B i) from (nI_leI (a := 0) (b := B i) (by decide) (by omega)).mpr (Nat.zero_le _)), show (97 : Int32) = nI 97 from rfl, show (122 : Int32) = nI 122 from rfl, m_in_k hb (by decide) (by decide), Option.bind_some]
    by_cases k1 : kof (B i) = 1
    · rw [if_pos (kof1.mp k1), if_neg (by decide), k1]
      rfl
    · rw [if_neg (fun e => k1 (kof1.mpr e)), if_pos rfl, show (48 : Int32) = nI 48 from rfl, show (57 : Int32) = nI 57 from rfl, m_in_k hb (by decide) (by decide), Option.bind_some]
      by_cases k2 : kof (B i) = 2
      · rw [if_pos (kof2.mp k2), if_neg (by decide), k2]
        rfl
      · rw [if_neg (fun e => k2 (kof2.mpr e)), if_pos rfl]
        have c59 : (nI (B i) = 59) = (B i = 59) := nn_eq (b := 59) (by omega) (by decide)
        by_cases k3 : kof (B i) = 3
        · rw [if_pos (by rw [c59]; exact kof3.mp k3), k3]
          rfl
        · rw [if_neg (by rw [c59]; exact fun e => k3 (kof3.mpr e)), show kof (B i) = 4 by have := kof_r (B i); omega]
          rfl
  · rw [if_neg h, if_neg h, if_neg (by decide)]
    rfl
theorem LAY.s81 {M : MM} {sp dr j : Nat} {v : Int32} (L : LAY M sp dr) : LAY (sI M 81 j v) sp dr := L.of rfl (fun _ _ => rfl)
theorem RX.s81 {M : MM} {B : Nat → Nat} {n j : Nat} {v : Int32} (X : RX M B n) (hj : 13 ≤ j ∧ j ≤ 16) : RX (sI M 81 j v) B n := X.pu (AgP.rf.sI ⟨rfl, hj⟩)
/-- the run of a token -/
theorem m_run {sp dr n s e k : Nat} {B : Nat → Nat} {N : MM} (L : LAY N sp dr) (X : RX N B n) (hn : n ≤ 200) (he : e ≤ n) (h14 : gI N 81 14 = nI k) (hse : s < e) (hk : k = 1 ∨ k = 2 ∨ k = 3 ∨ k = 4) (h6 : (k = 1 ∨ k = 2) → (∀ i, s ≤ i → i < e → kof (B i) = k) ∧ (e = n ∨ ¬ kof (B e) = k)) (h7 : ¬ (k = 1 ∨ k = 2) → e = s + 1) : ∀ d fuel i, i + d = e → d < fuel → s ≤ i → lp (fun t => z_X7_token_54 t 81) fuel (sI (sI N 81 13 (nI i)) 81 16 (nI (i - s))) = some (sI (sI N 81 13 (nI e)) 81 16 (nI (e - s))) := by
  have j102 : ∀ i, s ≤ i → i < e → j_X7_token_102 (sI (sI N 81 13 (nI i)) 81 16 (nI (i - s))) 81 = some (.inr (sI (sI N 81 13 (nI (i + 1))) 81 16 (nI (i + 1 - s)))) := by
    intro i h1 h2
    have L2 : LAY (sI (sI N 81 13 (nI i)) 81 16 (nI (i - s))) sp dr := L.s81.s81
    unfold j_X7_token_102
    rw [mf L2, Option.bind_some, gp_oth (by decide), gp_same, wmf L2, Option.bind_some, nI_1, sI_cm (j := 16) (k := 13) (by decide), sI_sI]
    have L3 : LAY (sI (sI N 81 13 (nI (i + 1))) 81 16 (nI (i - s))) sp dr := L.s81.s81
    rw [mf L3, Option.bind_some, gp_same, wmf L3, Option.bind_some, sI_sI, nI_1, show i - s + 1 = i + 1 - s by omega]
  intro d
  induction d with
  | zero =>
    intro fuel i hi hf h
    obtain ⟨fuel, rfl⟩ : ∃ m, fuel = m + 1 := ⟨fuel - 1, by omega⟩
    obtain rfl : i = e := by omega
    refine lp_l ?_
    have L2 : LAY (sI (sI N 81 13 (nI i)) 81 16 (nI (i - s))) sp dr := L.s81.s81
    have X2 : RX (sI (sI N 81 13 (nI i)) 81 16 (nI (i - s))) B n := (X.s81 (by omega)).s81 (by omega)
    have g14 : gI (sI (sI N 81 13 (nI i)) 81 16 (nI (i - s))) 81 14 = nI k := by rw [gp_oth (by decide), gp_oth (by decide)]; exact h14
    have g13 : gI (sI (sI N 81 13 (nI i)) 81 16 (nI (i - s))) 81 13 = nI i := by rw [gp_oth (by decide), gp_same]
    have g16 : gI (sI (sI N 81 13 (nI i)) 81 16 (nI (i - s))) 81 16 = nI (i - s) := gp_same
    generalize sI (sI N 81 13 (nI i)) 81 16 (nI (i - s)) = M2 at L2 X2 g14 g13 g16
    have hz : ¬ nI (i - s) = 0 := fun e => by have := (nI_eq (b := 0) (by omega) (by decide)).mp e; omega
    unfold z_X7_token_54
    rw [mf L2, Option.bind_some, g16, if_neg hz]
    unfold j_X7_token_68
    have ck : ∀ c, c < 5 → ((nI k = nI c) = (k = c)) := fun c hc => nn_eq (by omega) (by omega)
    have h84 : (k = 1 ∨ k = 2) → j_X7_token_84 M2 81 = some (.inl M2) := by
      intro hk2
      have hb := (h6 hk2).2
      have hsk : ¬ nI (sk B n i) = nI k := by
        have hsl : sk B n i < 5 := by unfold sk; have := kof_r (B i); split <;> omega
        intro q
        have q2 := (nI_eq (by omega) (by omega)).mp q
        unfold sk at q2
        by_cases hin : i < n
        · rw [if_pos hin] at q2
          exact hb.resolve_left (by omega) q2
        · rw [if_neg hin] at q2
          omega
      unfold j_X7_token_84
      rw [mf L2, Option.bind_some, g13, m_byte L2 X2 hn (by omega), Option.bind_some, m_sort (fun h => (X2.2 i h).2), Option.bind_some, mf L2, Option.bind_some, g14, if_neg hsk]
    rw [mf L2, Option.bind_some, g14, show (1 : Int32) = nI 1 from rfl, show (2 : Int32) = nI 2 from rfl]
    by_cases k1 : k = 1
    · rw [if_pos (by rw [k1]), h84 (Or.inl k1)]
    · rw [if_neg (by rw [ck 1 (by decide)]; exact k1), Option.bind_some]
      by_cases k2 : k = 2
      · rw [if_pos (by rw [k2]), h84 (Or.inr k2)]
      · rw [if_neg (by rw [ck 2 (by decide)]; exact k2)]
  | succ d ih =>
    intro fuel i hi hf h
    obtain ⟨fuel, rfl⟩ : ∃ m, fuel = m + 1 := ⟨fuel - 1, by omega⟩
    rw [lp_e (t := sI (sI N 81 13 (nI (i + 1))) 81 16 (nI (i + 1 - s)))]
    · exact ih fuel (i + 1) (by omega) (by omega) (by omega)
    · have hj := j102 i h (by omega)
      have L2 : LAY (sI (sI N 81 13 (nI i)) 81 16 (nI (i - s))) sp dr := L.s81.s81
      have X2 : RX (sI (sI N 81 13 (nI i)) 81 16 (nI (i - s))) B n := (X.s81 (by omega)).s81 (by omega)
      have g14 : gI (sI (sI N 81 13 (nI i)) 81 16 (nI (i - s))) 81 14 = nI k := by rw [gp_oth (by decide), gp_oth (by decide)]; exact h14
      have g13 : gI (sI (sI N 81 13 (nI i)) 81 16 (nI (i - s))) 81 13 = nI i := by rw [gp_oth (by decide), gp_same]
      have g16 : gI (sI (sI N 81 13 (nI i)) 81 16 (nI (i - s))) 81 16 = nI (i - s) := gp_same
      generalize sI (sI N 81 13 (nI i)) 81 16 (nI (i - s)) = M2 at L2 X2 g14 g13 g16 hj ⊢
      have ck : ∀ c, c < 5 → ((nI k = nI c) = (k = c)) := fun c hc => nn_eq (by omega) (by omega)
      unfold z_X7_token_54
      rw [mf L2, Option.bind_some, g16]
      by_cases his : i = s
      · rw [if_pos (by rw [his, Nat.sub_self]; rfl), mf L2, Option.bind_some, g14, if_neg (by rw [← n00, ck 0 (by decide)]; omega), hj]
      · have hz : ¬ nI (i - s) = 0 := fun e => by have := (nI_eq (b := 0) (by omega) (by decide)).mp e; omega
        rw [if_neg hz]
        have hk12 : k = 1 ∨ k = 2 := by
          rcases Decidable.em (k = 1 ∨ k = 2) with q | q
          · exact q
          · have := h7 q; omega
        have hki := (h6 hk12).1 i h (by omega)
        have h84 : j_X7_token_84 M2 81 = some (.inr (sI (sI N 81 13 (nI (i + 1))) 81 16 (nI (i + 1 - s)))) := by
          unfold j_X7_token_84
          rw [mf L2, Option.bind_some, g13, m_byte L2 X2 hn (by omega), Option.bind_some, m_sort (fun h => (X2.2 i h).2), Option.bind_some, mf L2, Option.bind_some, g14, if_pos (by unfold sk; rw [if_pos (by omega), hki]), hj]
        unfold j_X7_token_68
        rw [mf L2, Option.bind_some, g14, show (1 : Int32) = nI 1 from rfl, show (2 : Int32) = nI 2 from rfl]
        by_cases k1 : k = 1
        · rw [if_pos (by rw [k1]), h84]
        · rw [if_neg (by rw [ck 1 (by decide)]; exact k1), Option.bind_some, if_pos (by rw [hk12.resolve_left k1]), h84]
/-- what stands of a token -/
def TKN (M : MM) (s e k : Nat) : Prop := gI M 81 13 = nI e ∧ gI M 81 14 = nI k ∧ gI M 81 15 = nI s ∧ gI M 81 16 = nI (e - s)
theorem m_tok {sp dr n p s e k : Nat} {B : Nat → Nat} {M : MM} (L : LAY M sp dr) (X : RX M B n) (hn : n ≤ 200) (hp : p ≤ n) (g : gI M 81 13 = nI p) (t : TOKN B n p s e k) : ∃ M', f_X7_token M 81 = some M' ∧ AgP M M' PU ∧ TKN M' s e k := by
  obtain ⟨t1, t2, t3, t4⟩ := t
  have hs2 : s = n ∨ (s < n ∧ ¬ B s = 32) := t4.imp (fun h => h.1) (fun h => ⟨h.1, h.2.1⟩)
  have hske : sk B n s = k := by
    rcases t4 with ⟨h1, -, h3⟩ | ⟨h1, -, h3, -⟩
    · unfold sk; rw [if_neg (by omega)]; exact h3.symm
    · unfold sk; rw [if_pos h1]; exact h3.symm
  have hskip : ∀ d fuel i, i + d = s → d < fuel → p ≤ i → lp (fun t => z_X7_token_0 t 81) fuel (sI M 81 13 (nI i)) = lp (fun t => z_X7_token_54 t 81) FU (sI (sI (sI (sI M 81 13 (nI s)) 81 15 (nI s)) 81 14 (nI k)) 81 16 0) := by
    intro d
    induction d with
    | zero =>
      intro fuel i hi hf h
      obtain ⟨fuel, rfl⟩ : ∃ m, fuel = m + 1 := ⟨fuel - 1, by omega⟩
      obtain rfl : i = s := by omega
      refine lp_m ?_
      have L1 : LAY (sI M 81 13 (nI i)) sp dr := L.s81
      have X1 : RX (sI M 81 13 (nI i)) B n := X.s81 (by omega)
      have L2 : LAY (sI (sI M 81 13 (nI i)) 81 15 (nI i)) sp dr := L1.s81
      have X2 : RX (sI (sI M 81 13 (nI i)) 81 15 (nI i)) B n := X1.s81 (by omega)
      have L3 : LAY (sI (sI (sI M 81 13 (nI i)) 81 15 (nI i)) 81 14 (nI k)) sp dr := L2.s81
      have hb : ¬ byt B n i = 32 := by
        unfold byt
        rcases hs2 with h | ⟨h1, h2⟩
        · rw [if_neg (by omega)]; decide
        · rw [if_pos h1]
          have := (X.2 i h1).2
          exact fun q => h2 ((nI_eq (b := 32) (by omega) (by decide)).mp q)
      unfold z_X7_token_0
      rw [mf L1, Option.bind_some, gp_same, m_byte L1 X1 hn (by omega), Option.bind_some, if_neg hb, Option.bind_some, wmf L1, Option.bind_some, mf L2, Option.bind_some, gp_oth (by decide), gp_same, m_byte L2 X2 hn (by omega), Option.bind_some, m_sort (fun h => (X.2 i h).2), Option.bind_some, hske, wmf L2, Option.bind_some, wmf L3, Option.bind_some]
    | succ d ih =>
      intro fuel i hi hf h
      obtain ⟨fuel, rfl⟩ : ∃ m, fuel = m + 1 := ⟨fuel - 1, by omega⟩
      have L1 : LAY (sI M 81 13 (nI i)) sp dr := L.s81
      have X1 : RX (sI M 81 13 (nI i)) B n := X.s81 (by omega)
      have hb : byt B n i = 32 := by
        unfold byt
        rw [if_pos (by omega), t3 i h (by omega)]
        rfl
      rw [lp_e (t := sI M 81 13 (nI (i + 1)))]
      · exact ih fuel (i + 1) (by omega) (by omega) (by omega)
      · unfold z_X7_token_0
        rw [mf L1, Option.bind_some, gp_same, m_byte L1 X1 hn (by omega), Option.bind_some, if_pos hb, Option.bind_some, wmf L1, Option.bind_some, sI_sI, nI_1]
  have h0 := hskip (s - p) FU p (by omega) (show s - p < 4000 by omega) (Nat.le_refl _)
  rw [sI_id g] at h0
  have ef : f_X7_token M 81 = lp (fun t => z_X7_token_54 t 81) FU (sI (sI (sI (sI M 81 13 (nI s)) 81 15 (nI s)) 81 14 (nI k)) 81 16 0) := by
    unfold f_X7_token
    rw [if_pos (r81 L)]
    exact h0
  rw [ef]
  have LN : LAY (sI (sI (sI M 81 13 (nI s)) 81 15 (nI s)) 81 14 (nI k)) sp dr := L.s81.s81.s81
  have aN : AgP M (sI (sI (sI M 81 13 (nI s)) 81 15 (nI s)) 81 14 (nI k)) PU := ((AgP.rf.sI ⟨rfl, by decide, by decide⟩).sI ⟨rfl, by decide, by decide⟩).sI ⟨rfl, by decide, by decide⟩
  have g13 : gI (sI (sI (sI M 81 13 (nI s)) 81 15 (nI s)) 81 14 (nI k)) 81 13 = nI s := by rw [gp_oth (by decide), gp_oth (by decide), gp_same]
  have g14 : gI (sI (sI (sI M 81 13 (nI s)) 81 15 (nI s)) 81 14 (nI k)) 81 14 = nI k := gp_same
  have g15 : gI (sI (sI (sI M 81 13 (nI s)) 81 15 (nI s)) 81 14 (nI k)) 81 15 = nI s := by rw [gp_oth (by decide), gp_same]
  generalize sI (sI (sI M 81 13 (nI s)) 81 15 (nI s)) 81 14 (nI k) = N at LN aN g13 g14 g15 ⊢
  have XN := X.pu aN
  rcases t4 with ⟨h1, h2, h3⟩ | ⟨h1, h2, h3, h4, h5, h6, h7⟩
  · refine ⟨sI N 81 16 0, ?_, aN.sI ⟨rfl, by decide, by decide⟩, ?_, ?_, ?_, ?_⟩
    · refine lp_l (n := 3999) ?_
      have L2 : LAY (sI N 81 16 0) sp dr := LN.s81
      unfold z_X7_token_54
      rw [mf L2, Option.bind_some, gp_same, if_pos rfl, mf L2, Option.bind_some, gp_oth (by decide), g14, if_pos (by rw [h3]; rfl)]
      unfold j_X7_token_68
      rw [mf L2, Option.bind_some, gp_oth (by decide), g14, if_neg (by rw [h3]; decide), Option.bind_some, if_neg (by rw [h3]; decide)]
    · rw [gp_oth (by decide), g13, h2]
    · rw [gp_oth (by decide), g14]
    · rw [gp_oth (by decide), g15]
    · rw [gp_same, h2, Nat.sub_self]
      rfl
  · have hk : k = 1 ∨ k = 2 ∨ k = 3 ∨ k = 4 := by rw [h3]; exact kof_r _
    have hr := m_run LN XN hn h5 g14 h4 hk h6 h7 (e - s) FU s (by omega) (show e - s < 4000 by omega) (Nat.le_refl _)
    rw [Nat.sub_self, sI_id g13, n00] at hr
    refine ⟨_, hr, (aN.sI ⟨rfl, by decide, by decide⟩).sI ⟨rfl, by decide, by decide⟩, ?_, ?_, ?_, gp_same⟩
    · rw [gp_oth (by decide), gp_same]
    · rw [gp_oth (by decide), gp_oth (by decide), g14]
    · rw [gp_oth (by decide), gp_oth (by decide), g15]
theorem m_figure {sp dr n p s e k m : Nat} {B : Nat → Nat} {M : MM} (L : LAY M sp dr) (X : RX M B n) (hn : n ≤ 200) (t : TOKN B n p s e k) (h : TKN M s e k) (hm : m ≤ 9) : f_X7_figure M 81 (nI m) = some (if fig B s e k m = true then nI (B s - 48) else -9) := by
  have hs := t.2.1
  obtain ⟨h13, h14, h15, h16⟩ := h
  have hse := tok_e t
  have hk4 : k < 5 := by
    rcases t.2.2.2 with ⟨-, -, h⟩ | ⟨-, -, h, -⟩
    · omega
    · have := kof_r (B s); omega
  unfold f_X7_figure
  rw [if_pos (r81 L), mf L, Option.bind_some, h15, m_byte L X hn (by omega), Option.bind_some, mf L, Option.bind_some, h14]
  have c2 : (nI k = 2) = (k = 2) := nn_eq (b := 2) (by omega) (by decide)
  have c1 : (nI (e - s) = 1) = (e - s = 1) := nn_eq (b := 1) (by omega) (by decide)
  by_cases k2 : k = 2
  · obtain ⟨q1, q2, q3⟩ := tok_lt t (by omega)
    have hb := kof2.mp (show kof (B s) = 2 by rw [← q3]; exact k2)
    rw [if_pos (by rw [c2]; exact k2), mf L, Option.bind_some, h16]
    by_cases h1 : e - s = 1
    · have e48 : byt B n s - 48 = nI (B s - 48) := by
        unfold byt
        rw [if_pos q1]
        have := nI_sub 48 (B s - 48)
        rw [show 48 + (B s - 48) = B s by omega] at this
        exact this
      have cm : (nI m < nI (B s - 48)) = (m < B s - 48) := nn_lt (by omega) (by omega)
      rw [if_pos (by rw [c1]; exact h1), e48]
      by_cases hq : m < B s - 48
      · rw [if_pos (by rw [cm]; exact hq), if_neg (fun q => by have := (of_decide_eq_true q).2.2; omega)]
      · rw [if_neg (by rw [cm]; exact hq), if_pos (show fig B s e k m = true from decide_eq_true ⟨k2, by omega, by omega⟩)]
    · rw [if_neg (by rw [c1]; exact h1), if_neg (fun q => by have := (of_decide_eq_true q).2.1; omega)]
  · rw [if_neg (by rw [c2]; exact k2), if_neg (fun q => k2 (of_decide_eq_true q).1)]
theorem m_readsNumber {sp dr n p s e k m pl : Nat} {B : Nat → Nat} {M : MM} (L : LAY M sp dr) (X : RX M B n) (hn : n ≤ 200) (hp : p ≤ n) (g : gI M 81 13 = nI p) (t : TOKN B n p s e k) (hm : m ≤ 9) (hpl : pl < 110) : ∃ M', f_X7_readsNumber M 81 (nI pl) (nI m) = some (b2i (fig B s e k m), M') ∧ AgP M M' (fun p j => PU p j ∨ (p = 84 ∧ j = pl)) ∧ TKN M' s e k ∧ (fig B s e k m = true → gI M' 84 pl = nI (B s - 48)) := by
  obtain ⟨M1, f1, a1, h1⟩ := m_tok L X hn hp g t
  have L1 := L.agp a1
  have X1 := X.pu a1
  have hf := m_figure L1 X1 hn t h1 hm
  have r := fR_e (p := 81) (c := 7) (k := 4) L1.1 (by decide) rfl
  rw [ly_81_4 L1] at r
  unfold f_X7_readsNumber
  rw [if_pos (r81 L), f1, Option.bind_some, if_pos a1.1, hf, Option.bind_some, r, Option.bind_some, waI_e L1.1 (by decide) rfl (by rw [lnv_84]; omega), Option.bind_some]
  have hT : ∀ v, TKN (sI M1 84 pl v) s e k := fun v => ⟨by rw [gp_cell (by decide)]; exact h1.1, by rw [gp_cell (by decide)]; exact h1.2.1, by rw [gp_cell (by decide)]; exact h1.2.2.1, by rw [gp_cell (by decide)]; exact h1.2.2.2⟩
  cases hfig : fig B s e k m with
  | false =>
    rw [show (if false = true then nI (B s - 48) else (-9 : Int32)) = -9 from rfl, if_pos rfl]
    exact ⟨_, rfl, (a1.mono (fun _ _ h => Or.inl h)).sI (Or.inr ⟨rfl, rfl⟩), hT _, fun h => by cases h⟩
  | true =>
    have hb := (of_decide_eq_true hfig).2.2
    rw [if_pos rfl, if_neg (nI_nm (by omega) (by decide))]
    exact ⟨_, rfl, (a1.mono (fun _ _ h => Or.inl h)).sI (Or.inr ⟨rfl, rfl⟩), hT _, fun _ => gp_same⟩
