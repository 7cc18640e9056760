/-! PURE: the next token, class side -/
def nv (B : Nat → Nat) (s : Nat) : Nat → Nat
  | 0 => 0
  | j + 1 => if 100 < nv B s j * 10 + (B (s + j) - 48) then 100 else nv B s j * 10 + (B (s + j) - 48)
theorem nv_le {B : Nat → Nat} {s : Nat} : ∀ j, nv B s j ≤ 100
  | 0 => Nat.zero_le _
  | j + 1 => by
    unfold nv
    split <;> omega
theorem nv_1 {B : Nat → Nat} {s : Nat} (h : kof (B s) = 2) : nv B s 1 = B s - 48 := by
  have := kof2.mp h
  show (if 100 < 0 * 10 + (B (s + 0) - 48) then 100 else 0 * 10 + (B (s + 0) - 48)) = _
  rw [Nat.add_zero, if_neg (by omega)]
  omega
theorem nv_ge {B : Nat → Nat} {s : Nat} (h : 49 ≤ B s) : ∀ j, 1 ≤ nv B s (j + 1) ∧ 10 ≤ nv B s (j + 1 + 1)
  | 0 => by
    have h1 : 1 ≤ nv B s 1 := by
      show 1 ≤ (if 100 < 0 * 10 + (B (s + 0) - 48) then 100 else 0 * 10 + (B (s + 0) - 48))
      rw [Nat.add_zero]
      split <;> omega
    refine ⟨h1, ?_⟩
    show 10 ≤ (if 100 < nv B s 1 * 10 + (B (s + 1) - 48) then 100 else nv B s 1 * 10 + (B (s + 1) - 48))
    split <;> omega
  | j + 1 => by
    obtain ⟨-, h2⟩ := nv_ge h j
    refine ⟨by omega, ?_⟩
    show 10 ≤ (if 100 < nv B s (j + 1 + 1) * 10 + (B (s + (j + 1 + 1)) - 48) then 100 else nv B s (j + 1 + 1) * 10 + (B (s + (j + 1 + 1)) - 48))
    split <;> omega
def csN (B : Nat → Nat) (s e : Nat) : Nat := if (B s = 48 ∧ 1 < e - s) ∨ 99 < nv B s (e - s) then 1 else 3
theorem csN_3 {B : Nat → Nat} {s e m : Nat} (hse : s < e) (hk : kof (B s) = 2) (hm : m ≤ 9) : (csN B s e = 3 ∧ nv B s (e - s) ≤ m) ↔ (e = s + 1 ∧ B s ≤ 48 + m) := by
  have hb := kof2.mp hk
  unfold csN
  by_cases h1 : e = s + 1
  · rw [show e - s = 1 by omega, nv_1 hk, if_neg (by omega)]
    omega
  · obtain ⟨j, hj⟩ : ∃ j, e - s = j + 1 + 1 := ⟨e - s - 2, by omega⟩
    by_cases h0 : B s = 48
    · rw [if_pos (Or.inl ⟨h0, by omega⟩)]
      omega
    · have := (nv_ge (B := B) (s := s) (by omega) j).2
      rw [hj]
      omega
theorem c_tn {sp dr n s e : Nat} {B : Nat → Nat} {M : MM} (L : LAY M sp dr) (X : TX M B n) (hn : n ≤ 200) (he : e ≤ n) (hl : ∀ i, s ≤ i → i < e → kof (B i) = 2) (hs2 : e = n ∨ ¬ kof (B e) = 2) : ∀ d fuel j, s + j + d = e → d < fuel → lp (fun t => z_X3_takeNumber_5 t 1) fuel (sI (sI M 1 3 (nI (s + j))) 1 5 (nI (nv B s j))) = j_X3_takeNumber_73 (sI (sI M 1 3 (nI e)) 1 5 (nI (nv B s (e - s)))) 1 := by
  intro d
  induction d with
  | zero =>
    intro fuel j hj hf
    obtain ⟨fuel, rfl⟩ : ∃ m, fuel = m + 1 := ⟨fuel - 1, by omega⟩
    obtain rfl : e = s + j := by omega
    rw [show s + j - s = j by omega]
    refine lp_m ?_
    have L' := (L.s1 (p := 1) (j := 3) (v := nI (s + j))).s1 (p := 1) (j := 5) (v := nI (nv B s j))
    have X' := (X.s1 (j := 3) (v := nI (s + j)) (by decide)).s1 (j := 5) (v := nI (nv B s j)) (by decide)
    unfold z_X3_takeNumber_5
    rw [tf L', Option.bind_some, tf L', Option.bind_some, X'.1, g1_oth (by decide), g1_same]
    by_cases h2 : s + j = n
    · rw [if_pos (by rw [h2]; exact Int32.le_refl _)]
    · rw [if_neg (fun e => by have := (nI_leI (by omega) (by omega)).mp e; omega), Option.bind_some, c_09 L' X' hn (by omega), Option.bind_some, if_neg (hs2.resolve_left h2), if_pos rfl]
  | succ d ih =>
    intro fuel j hj hf
    obtain ⟨fuel, rfl⟩ : ∃ m, fuel = m + 1 := ⟨fuel - 1, by omega⟩
    have hk := hl (s + j) (by omega) (by omega)
    have hb := kof2.mp hk
    have hv := nv_le (B := B) (s := s) j
    rw [lp_e (t := sI (sI M 1 3 (nI (s + (j + 1)))) 1 5 (nI (nv B s (j + 1))))]
    · exact ih fuel (j + 1) (by omega) (by omega)
    · have L' := (L.s1 (p := 1) (j := 3) (v := nI (s + j))).s1 (p := 1) (j := 5) (v := nI (nv B s j))
      have X' := (X.s1 (j := 3) (v := nI (s + j)) (by decide)).s1 (j := 5) (v := nI (nv B s j)) (by decide)
      have e1 : ((nI (nv B s j) * 10) + nI (B (s + j))) - 48 = nI (nv B s j * 10 + (B (s + j) - 48)) := by
        rw [show (10 : Int32) = nI 10 from rfl, show (48 : Int32) = nI 48 from rfl, nI_mul, nI_add, show nv B s j * 10 + B (s + j) = 48 + (nv B s j * 10 + (B (s + j) - 48)) by omega, nI_sub]
      have c1 : ((100 : Int32) < nI (nv B s j * 10 + (B (s + j) - 48))) = (100 < nv B s j * 10 + (B (s + j) - 48)) := nn_lt (a := 100) (by decide) (by omega)
      have e2 : (if (100 : Int32) < nI (nv B s j * 10 + (B (s + j) - 48)) then 100 else nI (nv B s j * 10 + (B (s + j) - 48))) = nI (nv B s (j + 1)) := by
        show _ = nI (if 100 < nv B s j * 10 + (B (s + j) - 48) then 100 else nv B s j * 10 + (B (s + j) - 48))
        by_cases h : 100 < nv B s j * 10 + (B (s + j) - 48)
        · rw [if_pos (by rw [c1]; exact h), if_pos h]
          rfl
        · rw [if_neg (by rw [c1]; exact h), if_neg h]
      unfold z_X3_takeNumber_5
      rw [tf L', Option.bind_some, tf L', Option.bind_some, X'.1, g1_oth (by decide), g1_same, if_neg (fun e => by have := (nI_leI (by omega) (by omega)).mp e; omega), Option.bind_some, c_09 L' X' hn (by omega), Option.bind_some, if_pos hk, if_neg (by decide), tf L', Option.bind_some, g1_same, tbr L', Option.bind_some, Option.bind_some, tba L' X' hn (by omega), Option.bind_some, e1, e2, wtf L', Option.bind_some]
      rw [sI_sI, tf ((L.s1 (p := 1) (j := 3) (v := nI (s + j))).s1 (p := 1) (j := 5) (v := nI (nv B s (j + 1)))), Option.bind_some, g1_oth (by decide), g1_same, wtf ((L.s1 (p := 1) (j := 3) (v := nI (s + j))).s1 (p := 1) (j := 5) (v := nI (nv B s (j + 1)))), Option.bind_some, sI_cm (j := 5) (k := 3) (by decide), sI_sI, nI_1]
      rfl
theorem c_number {sp dr n s e : Nat} {B : Nat → Nat} {M : MM} (L : LAY M sp dr) (X : TX M B n) (hn : n ≤ 200) (hse : s < e) (he : e ≤ n) (hl : ∀ i, s ≤ i → i < e → kof (B i) = 2) (hs2 : e = n ∨ ¬ kof (B e) = 2) (g2 : gI M 1 2 = nI s) : f_X3_takeNumber (sI M 1 3 (nI s)) 1 = some (sI (sI (sI M 1 3 (nI e)) 1 5 (nI (nv B s (e - s)))) 1 4 (nI (csN B s e))) := by
  unfold f_X3_takeNumber
  rw [if_pos (by rw [(L.s1 (p := 1) (j := 3) (v := nI s)).1]; decide), wtf (L.s1 (p := 1) (j := 3) (v := nI s)), Option.bind_some]
  have h := c_tn L X hn he hl hs2 (e - s) FU 0 (by omega) (show e - s < 4000 by omega)
  rw [Nat.add_zero, show nI (nv B s 0) = 0 from rfl] at h
  rw [h]
  have L' := (L.s1 (p := 1) (j := 3) (v := nI e)).s1 (p := 1) (j := 5) (v := nI (nv B s (e - s)))
  have X' := (X.s1 (j := 3) (v := nI e) (by decide)).s1 (j := 5) (v := nI (nv B s (e - s))) (by decide)
  have q2 : gI (sI (sI M 1 3 (nI e)) 1 5 (nI (nv B s (e - s)))) 1 2 = nI s := by rw [g1_oth (by decide), g1_oth (by decide)]; exact g2
  have q3 : gI (sI (sI M 1 3 (nI e)) 1 5 (nI (nv B s (e - s)))) 1 3 = nI e := by rw [g1_oth (by decide), g1_same]
  have q5 : gI (sI (sI M 1 3 (nI e)) 1 5 (nI (nv B s (e - s)))) 1 5 = nI (nv B s (e - s)) := g1_same
  have hv := nv_le (B := B) (s := s) (e - s)
  generalize sI (sI M 1 3 (nI e)) 1 5 (nI (nv B s (e - s))) = N at L' X' q2 q3 q5 ⊢
  have h120 : j_X3_takeNumber_120 N 1 = some (sI N 1 4 (nI 1)) := by
    unfold j_X3_takeNumber_120
    rw [wtf L', Option.bind_some]
    rfl
  have hb := (X.2 s (by omega)).2
  have c48 : (nI (B s) = 48) = (B s = 48) := nn_eq (b := 48) (by omega) (by decide)
  have e5 : nI e - nI s = nI (e - s) := by
    have := nI_sub s (e - s)
    rw [show s + (e - s) = e by omega] at this
    exact this
  have c1 : (nI (e - s) ≤ 1) = (e - s ≤ 1) := nn_le (b := 1) (by omega) (by decide)
  have c99 : (nI (nv B s (e - s)) ≤ 99) = (nv B s (e - s) ≤ 99) := nn_le (b := 99) (by omega) (by decide)
  have h104 : j_X3_takeNumber_104 N 1 = some (sI N 1 4 (nI (if 99 < nv B s (e - s) then 1 else 3))) := by
    unfold j_X3_takeNumber_104 j_X3_takeNumber_105
    rw [if_pos rfl, tf L', Option.bind_some, q5, h120]
    by_cases h : 99 < nv B s (e - s)
    · rw [if_neg (by rw [c99]; omega), if_pos h]
    · rw [if_pos (by rw [c99]; omega), if_neg h, wtf L', Option.bind_some]
      rfl
  unfold j_X3_takeNumber_73 csN
  rw [tbr L', Option.bind_some, tf L', Option.bind_some, q2, tba L' X' hn (by omega), Option.bind_some, tf L', Option.bind_some, Option.bind_some, q3, e5, h104]
  by_cases h0 : B s = 48
  · rw [if_pos (by rw [c48]; exact h0)]
    by_cases h1 : e - s ≤ 1
    · rw [if_pos (by rw [c1]; exact h1)]
      congr 3
      by_cases h9 : 99 < nv B s (e - s)
      · rw [if_pos h9, if_pos (Or.inr h9)]
      · rw [if_neg h9, if_neg (by omega)]
    · rw [if_neg (by rw [c1]; exact h1), if_pos (Or.inl ⟨h0, by omega⟩)]
      unfold j_X3_takeNumber_105
      rw [if_neg (by decide), h120]
  · rw [if_neg (by rw [c48]; exact h0)]
    congr 3
    by_cases h9 : 99 < nv B s (e - s)
    · rw [if_pos h9, if_pos (Or.inr h9)]
    · rw [if_neg h9, if_neg (by omega)]
def csT (B : Nat → Nat) (s e k : Nat) : Nat := if k = 0 then 0 else if k = 1 then csW B s e else if k = 2 then csN B s e else if k = 3 then 2 else 1
theorem csW_r {B : Nat → Nat} {s e : Nat} : csW B s e = 5 ∨ csW B s e = 6 ∨ csW B s e = 4 ∨ csW B s e = 1 := by
  unfold csW
  split
  · simp
  · split
    · simp
    · split <;> simp
theorem csN_r {B : Nat → Nat} {s e : Nat} : csN B s e = 1 ∨ csN B s e = 3 := by
  unfold csN
  split <;> simp
theorem csT_le {B : Nat → Nat} {s e k : Nat} : csT B s e k ≤ 6 := by
  have := csW_r (B := B) (s := s) (e := e)
  have := csN_r (B := B) (s := s) (e := e)
  unfold csT
  split
  · omega
  · split
    · omega
    · split
      · omega
      · split <;> omega
theorem csT_3 {B : Nat → Nat} {s e k : Nat} : csT B s e k = 3 ↔ k = 2 ∧ csN B s e = 3 := by
  have := csW_r (B := B) (s := s) (e := e)
  unfold csT
  by_cases h0 : k = 0
  · simp [h0]
  · by_cases h1 : k = 1
    · simp [h1]; omega
    · by_cases h2 : k = 2
      · simp [h2]
      · by_cases h3 : k = 3
        · simp [h3]
        · simp [h0, h1, h2, h3]
theorem csT_2 {B : Nat → Nat} {s e k : Nat} : csT B s e k = 2 ↔ k = 3 := by
  have := csW_r (B := B) (s := s) (e := e)
  have := csN_r (B := B) (s := s) (e := e)
  unfold csT
  by_cases h0 : k = 0
  · simp [h0]
  · by_cases h1 : k = 1
    · simp [h1]; omega
    · by_cases h2 : k = 2
      · simp [h2]; omega
      · by_cases h3 : k = 3
        · simp [h3]
        · simp [h0, h1, h2, h3]
theorem csT_0 {B : Nat → Nat} {s e k : Nat} : csT B s e k = 0 ↔ k = 0 := by
  have := csW_r (B := B) (s := s) (e := e)
  have := csN_r (B := B) (s := s) (e := e)
  unfold csT
  by_cases h0 : k = 0
  · simp [h0]
  · by_cases h1 : k = 1
    · simp [h1]; omega
    · by_cases h2 : k = 2
      · simp [h2]; omega
      · by_cases h3 : k = 3
        · simp [h3]
        · simp [h0, h1, h2, h3]
theorem csT_big {B : Nat → Nat} {s e k c : Nat} (hc : 4 ≤ c) : csT B s e k = c ↔ k = 1 ∧ csW B s e = c := by
  have := csN_r (B := B) (s := s) (e := e)
  unfold csT
  by_cases h0 : k = 0
  · simp [h0]; omega
  · by_cases h1 : k = 1
    · simp [h1]
    · by_cases h2 : k = 2
      · simp [h2]; omega
      · by_cases h3 : k = 3
        · simp [h3]; omega
        · simp [h0, h1, h2, h3]; omega
theorem c_adv {sp dr n p s e k : Nat} {B : Nat → Nat} {M : MM} (L : LAY M sp dr) (X : TX M B n) (hn : n ≤ 200) (hp : p ≤ n) (g3 : gI M 1 3 = nI p) (t : TOKN B n p s e k) : ∃ M', f_X3_advance M 1 = some M' ∧ AgP M M' PT ∧ gI M' 1 2 = nI s ∧ gI M' 1 3 = nI e ∧ gI M' 1 4 = nI (csT B s e k) ∧ (k = 2 → gI M' 1 5 = nI (nv B s (e - s))) := by
  obtain ⟨t1, t2, t3, t4⟩ := t
  have hs2 : s = n ∨ ¬ B s = 32 := t4.imp (fun h => h.1) (fun h => h.2.1)
  have hsk := c_skip L X hn t2 hs2 (s - p) FU p (by omega) (show s - p < 4000 by omega) t3
  have ef : f_X3_advance M 1 = j_X3_advance_46 (sI M 1 2 (nI s)) 1 := by
    unfold f_X3_advance
    rw [if_pos (by rw [L.1]; decide), tf L, Option.bind_some, g3, wtf L, Option.bind_some]
    exact hsk
  rw [ef]
  have LN := L.s1 (p := 1) (j := 2) (v := nI s)
  have XN := X.s1 (j := 2) (v := nI s) (by decide)
  have aN : AgP M (sI M 1 2 (nI s)) PT := AgP.rf.sI ⟨rfl, by decide⟩
  have gN : gI (sI M 1 2 (nI s)) 1 2 = nI s := g1_same
  generalize sI M 1 2 (nI s) = N at LN XN aN gN ⊢
  have L2 := LN.s1 (p := 1) (j := 3) (v := nI s)
  have X2 := XN.s1 (j := 3) (v := nI s) (by decide)
  have a2 : AgP M (sI N 1 3 (nI s)) PT := aN.sI ⟨rfl, by decide⟩
  have g22 : gI (sI N 1 3 (nI s)) 1 2 = nI s := by rw [g1_oth (by decide)]; exact gN
  have hN2 : (sI N 1 3 (nI s)).1 = (sI N 1 3 (nI s)).1 := rfl
  unfold j_X3_advance_46
  rw [tf LN, Option.bind_some, gN, wtf LN, Option.bind_some, tf L2, Option.bind_some, tf L2, Option.bind_some, g22, X2.1]
  rcases t4 with ⟨h1, h2, h3⟩ | ⟨h1, h2, h3, h4, h5, h6, h7⟩
  · subst h1 h2 h3
    rw [if_neg Int32.lt_irrefl, wtf L2, Option.bind_some]
    refine ⟨_, rfl, a2.sI ⟨rfl, by decide⟩, ?_, ?_, ?_, fun h => absurd h (by decide)⟩
    · rw [g1_oth (by decide)]; exact g22
    · rw [g1_oth (by decide), g1_same]
    · rw [g1_same]; rfl
  · rw [if_pos ((nI_ltI (by omega) (by omega)).mpr h1), Option.bind_some, c_az L2 X2 hn h1, Option.bind_some]
    by_cases k1 : k = 1
    · obtain ⟨h8, h9⟩ := h6 (Or.inl k1)
      rw [k1] at h8 h9
      rw [if_pos (show kof (B s) = 1 by rw [← h3]; exact k1), if_neg (by decide), c_letters LN XN hn h4 h5 h8 h9 gN, Option.bind_some]
      simp only [n_sI, ↓reduceIte]
      refine ⟨_, rfl, (aN.sI (v := nI e) ⟨rfl, by decide⟩).sI ⟨rfl, by decide⟩, ?_, ?_, ?_, fun h => by omega⟩
      · rw [g1_oth (by decide), g1_oth (by decide)]; exact gN
      · rw [g1_oth (by decide), g1_same]
      · rw [g1_same]; subst k1; rfl
    · rw [if_neg (show ¬ kof (B s) = 1 by rw [← h3]; exact k1), if_pos rfl, Option.bind_some, c_09 L2 X2 hn h1, Option.bind_some]
      by_cases k2 : k = 2
      · obtain ⟨h8, h9⟩ := h6 (Or.inr k2)
        rw [k2] at h8 h9
        rw [if_pos (show kof (B s) = 2 by rw [← h3]; exact k2), if_neg (by decide), c_number LN XN hn h4 h5 h8 h9 gN, Option.bind_some]
        simp only [n_sI, ↓reduceIte]
        refine ⟨_, rfl, ((aN.sI (v := nI e) ⟨rfl, by decide⟩).sI (v := nI (nv B s (e - s))) ⟨rfl, by decide⟩).sI ⟨rfl, by decide⟩, ?_, ?_, ?_, fun _ => ?_⟩
        · rw [g1_oth (by decide), g1_oth (by decide), g1_oth (by decide)]; exact gN
        · rw [g1_oth (by decide), g1_oth (by decide), g1_same]
        · rw [g1_same]; subst k2; rfl
        · rw [g1_oth (by decide), g1_same]
      · have he := h7 (by omega)
        rw [if_neg (show ¬ kof (B s) = 2 by rw [← h3]; exact k2), if_pos rfl, tf L2, Option.bind_some, g1_same, wtf L2, Option.bind_some, sI_sI, nI_1, ← he]
        have L3 := LN.s1 (p := 1) (j := 3) (v := nI e)
        have X3 := XN.s1 (j := 3) (v := nI e) (by decide)
        have g32 : gI (sI N 1 3 (nI e)) 1 2 = nI s := by rw [g1_oth (by decide)]; exact gN
        have a3 : AgP M (sI N 1 3 (nI e)) PT := aN.sI ⟨rfl, by decide⟩
        have hb := (X.2 s h1).2
        have c59 : (nI (B s) = 59) = (B s = 59) := nn_eq (b := 59) (by omega) (by decide)
        rw [tbr L3, Option.bind_some, tf L3, Option.bind_some, g32, tba L3 X3 hn h1, Option.bind_some]
        by_cases k3 : k = 3
        · rw [if_pos (by rw [c59]; exact kof3.mp (by rw [← h3]; exact k3)), wtf L3, Option.bind_some]
          refine ⟨_, rfl, a3.sI ⟨rfl, by decide⟩, ?_, ?_, ?_, fun h => absurd h k2⟩
          · rw [g1_oth (by decide)]; exact g32
          · rw [g1_oth (by decide), g1_same]
          · rw [g1_same]; subst k3; rfl
        · rw [if_neg (by rw [c59]; exact fun q => k3 (by rw [h3]; exact kof3.mpr q)), wtf L3, Option.bind_some]
          refine ⟨_, rfl, a3.sI ⟨rfl, by decide⟩, ?_, ?_, ?_, fun h => absurd h k2⟩
          · rw [g1_oth (by decide)]; exact g32
          · rw [g1_oth (by decide), g1_same]
          · rw [g1_same]
            have k0 : ¬ k = 0 := by have := kof_r (B s); omega
            unfold csT
            rw [if_neg k0, if_neg k1, if_neg k2, if_neg k3]
            rfl
/-! a number, an end, signs -/
def fig (B : Nat → Nat) (s e k m : Nat) : Bool := decide (k = 2 ∧ e = s + 1 ∧ B s ≤ 48 + m)
theorem tok_lt {B : Nat → Nat} {n p s e k : Nat} (t : TOKN B n p s e k) (hk : ¬ k = 0) : s < n ∧ s < e ∧ k = kof (B s) := by
  rcases t.2.2.2 with ⟨-, -, h⟩ | ⟨h1, -, h3, h4, -⟩
  · exact absurd h hk
  · exact ⟨h1, h4, h3⟩
theorem tok_e {B : Nat → Nat} {n p s e k : Nat} (t : TOKN B n p s e k) : s ≤ e ∧ e ≤ n := by
  have h2 := t.2.1
  rcases t.2.2.2 with ⟨h, h', -⟩ | ⟨h1, -, h3, h4, h5, -⟩ <;> omega
theorem c_num {sp dr n p s e k m : Nat} {B : Nat → Nat} {M : MM} (L : LAY M sp dr) (X : TX M B n) (hn : n ≤ 200) (hp : p ≤ n) (g3 : gI M 1 3 = nI p) (t : TOKN B n p s e k) (hm : m ≤ 9) : ∃ M', f_X4_readNumber M 1 (nI m) = some (b2i (fig B s e k m), M') ∧ AgP M M' PT ∧ gI M' 1 2 = nI s ∧ gI M' 1 3 = nI e ∧ gI M' 1 4 = nI (csT B s e k) ∧ (fig B s e k m = true → gI M' 1 5 = nI (B s - 48)) := by
  obtain ⟨M', f, a, v2, v3, v4, v5⟩ := c_adv L X hn hp g3 t
  have L' := L.agp a
  have hc := csT_le (B := B) (s := s) (e := e) (k := k)
  have c3 : (nI (csT B s e k) = 3) = (csT B s e k = 3) := nn_eq (b := 3) (by omega) (by decide)
  have key : b2i (fig B s e k m) = (if csT B s e k = 3 ∧ nv B s (e - s) ≤ m then 1 else 0) ∧ (fig B s e k m = true → gI M' 1 5 = nI (B s - 48)) := by
    unfold fig
    by_cases k2 : k = 2
    · have hk := tok_lt t (by omega)
      have h := csN_3 (m := m) hk.2.1 (show kof (B s) = 2 by rw [← hk.2.2]; exact k2) hm
      have h3 : csT B s e k = 3 ↔ csN B s e = 3 := by rw [csT_3]; simp [k2]
      constructor
      · by_cases hq : e = s + 1 ∧ B s ≤ 48 + m
        · have := h.mpr hq
          rw [decide_eq_true ⟨k2, hq⟩, if_pos ⟨h3.mpr this.1, this.2⟩]
          rfl
        · rw [decide_eq_false (fun q => hq q.2), if_neg (fun q => hq (h.mp ⟨h3.mp q.1, q.2⟩))]
          rfl
      · intro hq
        have hq2 := of_decide_eq_true hq
        rw [v5 k2, hq2.2.1, show s + 1 - s = 1 by omega, nv_1 (show kof (B s) = 2 by rw [← hk.2.2]; exact k2)]
    · constructor
      · rw [decide_eq_false (fun q => k2 q.1), if_neg (fun q => k2 (csT_3.mp q.1).1)]
        rfl
      · intro hq
        exact absurd (of_decide_eq_true hq).1 k2
  refine ⟨M', ?_, a, v2, v3, v4, key.2⟩
  unfold f_X4_readNumber
  rw [f, Option.bind_some, if_pos a.1, tf L', Option.bind_some, v4, key.1]
  by_cases h3 : csT B s e k = 3
  · have k2 := (csT_3.mp h3).1
    have hv := nv_le (B := B) (s := s) (e - s)
    have cm : (nI m < nI (nv B s (e - s))) = (m < nv B s (e - s)) := nn_lt (by omega) (by omega)
    rw [if_pos (by rw [c3]; exact h3), tf L', Option.bind_some, v5 k2]
    by_cases h : m < nv B s (e - s)
    · rw [if_pos (by rw [cm]; exact h), if_neg (fun q => by omega)]
    · rw [if_neg (by rw [cm]; exact h), if_pos ⟨h3, by omega⟩]
  · rw [if_neg (by rw [c3]; exact h3), if_neg (fun q => h3 q.1)]
theorem c_end {sp dr n p s e k : Nat} {B : Nat → Nat} {M : MM} (L : LAY M sp dr) (X : TX M B n) (hn : n ≤ 200) (hp : p ≤ n) (g3 : gI M 1 3 = nI p) (t : TOKN B n p s e k) : ∃ M', f_X4_readEnd M 1 = some (b2i (decide (k = 3)), M') ∧ AgP M M' PT ∧ gI M' 1 2 = nI s ∧ gI M' 1 3 = nI e := by
  obtain ⟨M', f, a, v2, v3, v4, v5⟩ := c_adv L X hn hp g3 t
  have L' := L.agp a
  have hc := csT_le (B := B) (s := s) (e := e) (k := k)
  have c3 : (nI (csT B s e k) = 2) = (csT B s e k = 2) := nn_eq (b := 2) (by omega) (by decide)
  refine ⟨M', ?_, a, v2, v3⟩
  unfold f_X4_readEnd
  rw [f, Option.bind_some, if_pos a.1, tf L', Option.bind_some, v4]
  by_cases h : k = 3
  · rw [if_pos (by rw [c3]; exact csT_2.mpr h), decide_eq_true h]
    rfl
  · rw [if_neg (by rw [c3]; exact fun q => h (csT_2.mp q)), decide_eq_false h]
    rfl
