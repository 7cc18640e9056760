/-! PURE: the law's loop -/
theorem law_e {lim L : Nat} {xs : Nat → Int32} {M : MM} {j : Nat} : j_L_law_871 lim L xs M 0 81 (nI j) = some (.inr (nI (j + 4), M)) := by
  unfold j_L_law_871
  rw [show (4 : Int32) = nI 4 from rfl, nI_add]
theorem law_in {L j k : Nat} (h : j + k < L) (hL : L ≤ 2048) : ¬ (nI j + nI k < 0 ∨ L ≤ (nI j + nI k).toNatClampNeg) := by
  rw [nI_add]
  intro e
  rcases e with e | e
  · exact nI_pos (by omega) e
  · rw [nI_clamp (by omega)] at e
    omega
set_option maxHeartbeats 4000000 in
theorem law_step {lim L j : Nat} {xs : Nat → Int32} {M : MM} {T : TG} {sp dr : Nat} (hL : L ≤ 2048) (hj : j + 4 ≤ L) (I : Inv M T sp dr) : ∃ M' T' sp' dr', z_L_law_18 lim L xs M 0 81 (nI j) = some (.inr (nI (j + 4), M')) ∧ Inv M' T' sp' dr' := by
  have c0 : ¬ Int32.ofNat L - 4 < nI j := by
    rw [show Int32.ofNat L - 4 = nI (L - 4) from pk_sub (a := L) (b := 4) (by omega)]
    intro e
    have := (nI_ltI (by omega) (by omega)).mp e
    omega
  have b0 : ¬ (nI j < 0 ∨ L ≤ (nI j).toNatClampNeg) := by
    intro e
    rcases e with e | e
    · exact nI_pos (by omega) e
    · rw [nI_clamp (by omega)] at e
      omega
  have b1 : ¬ (nI j + 1 < 0 ∨ L ≤ (nI j + 1).toNatClampNeg) := law_in (k := 1) (by omega) hL
  have b2 : ¬ (nI j + 2 < 0 ∨ L ≤ (nI j + 2).toNatClampNeg) := law_in (k := 2) (by omega) hL
  have b3 : ¬ (nI j + 3 < 0 ∨ L ≤ (nI j + 3).toNatClampNeg) := law_in (k := 3) (by omega) hL
  unfold z_L_law_18
  rw [if_neg c0, if_pos b0]
  generalize xs (nI j + 1).toNatClampNeg = x1
  generalize xs (nI j + 2).toNatClampNeg = x2
  generalize xs (nI j + 3).toNatClampNeg = x3
  generalize xs (nI j).toNatClampNeg &&& 31 = op
  by_cases h0 : op = 0
  · rw [if_pos h0]
    obtain ⟨r, M1, M2, f1, n1, f2, n2, I2⟩ := eq_type I ((x1.toInt64 <<< ((32 : Int32).toInt64 &&& 63)) ||| (x2.toInt64 &&& 4294967295)) x3
    refine ⟨M2, T, sp, dr, ?_, I2⟩
    rw [if_pos b1, if_pos b2, if_pos b3, f1, Option.bind_some, if_pos n1, if_pos b1, if_pos b2, if_pos b3, f2, Option.bind_some, if_pos n2, if_pos rfl, law_e]
  rw [if_neg h0]
  by_cases h1 : op = 1
  · rw [if_pos h1]
    obtain ⟨r, M1, M2, f1, n1, f2, n2, I2⟩ := eq_clear I
    refine ⟨M2, T, sp, dr, ?_, I2⟩
    rw [f1, Option.bind_some, if_pos n1, f2, Option.bind_some, if_pos n2, if_pos rfl, law_e]
  rw [if_neg h1]
  by_cases h2 : op = 2
  · rw [if_pos h2]
    obtain ⟨r, M1, M2, T2, sp2, dr2, f1, n1, f2, n2, I2⟩ := eq_tongue I
    refine ⟨M2, T2, sp2, dr2, ?_, I2⟩
    rw [f1, Option.bind_some, if_pos n1, f2, Option.bind_some, if_pos n2, if_pos rfl, law_e]
  rw [if_neg h2]
  by_cases h3 : op = 3
  · rw [if_pos h3]
    obtain ⟨r, f1, f2⟩ := eq_word I x1 x2
    refine ⟨M, T, sp, dr, ?_, I⟩
    rw [if_pos b1, if_pos b2, f1, Option.bind_some, if_pos b1, if_pos b2, f2, Option.bind_some, if_pos rfl, law_e]
  rw [if_neg h3]
  by_cases h4 : op = 4
  · rw [if_pos h4]
    obtain ⟨r, f1, f2⟩ := eq_spell I x1 x2
    refine ⟨M, T, sp, dr, ?_, I⟩
    rw [if_pos b1, if_pos b2, f1, Option.bind_some, if_pos b1, if_pos b2, f2, Option.bind_some, if_pos rfl, law_e]
  rw [if_neg h4]
  by_cases h5 : op = 5
  · rw [if_pos h5]
    obtain ⟨r, f1, f2⟩ := eq_shape I x1 x2
    refine ⟨M, T, sp, dr, ?_, I⟩
    rw [if_pos b1, if_pos b2, f1, Option.bind_some, if_pos b1, if_pos b2, f2, Option.bind_some, if_pos rfl, law_e]
  rw [if_neg h5]
  by_cases h6 : op = 6
  · rw [if_pos h6]
    obtain ⟨r, f1, f2⟩ := eq_letter I x1 x2
    refine ⟨M, T, sp, dr, ?_, I⟩
    rw [if_pos b1, if_pos b2, f1, Option.bind_some, if_pos b1, if_pos b2, f2, Option.bind_some, if_pos rfl, law_e]
  rw [if_neg h6]
  by_cases h7 : op = 7
  · rw [if_pos h7]
    obtain ⟨r, f1, f2⟩ := eq_has I x1 x2
    refine ⟨M, T, sp, dr, ?_, I⟩
    rw [if_pos b1, if_pos b2, f1, Option.bind_some, if_pos b1, if_pos b2, f2, Option.bind_some, if_pos rfl, law_e]
  rw [if_neg h7]
  by_cases h8 : op = 8
  · rw [if_pos h8]
    obtain ⟨r, M1, M2, f1, n1, f2, n2, I2⟩ := eq_write I x1
    refine ⟨M2, T, sp, dr, ?_, I2⟩
    rw [if_pos b1, f1, Option.bind_some, if_pos n1, if_pos b1, f2, Option.bind_some, if_pos n2, if_pos rfl, law_e]
  rw [if_neg h8]
  by_cases h9 : op = 9
  · rw [if_pos h9]
    obtain ⟨r, M1, M2, f1, n1, f2, n2, I2⟩ := eq_undo I
    refine ⟨M2, T, sp, dr, ?_, I2⟩
    rw [f1, Option.bind_some, if_pos n1, f2, Option.bind_some, if_pos n2, if_pos rfl, law_e]
  rw [if_neg h9]
  by_cases h10 : op = 10
  · rw [if_pos h10]
    obtain ⟨r, f1, f2⟩ := eq_wrote I x1
    refine ⟨M, T, sp, dr, ?_, I⟩
    rw [if_pos b1, f1, Option.bind_some, if_pos b1, f2, Option.bind_some, if_pos rfl, law_e]
  rw [if_neg h10]
  by_cases h11 : op = 11
  · rw [if_pos h11]
    obtain ⟨r, f1, f2⟩ := eq_side I x1
    refine ⟨M, T, sp, dr, ?_, I⟩
    rw [if_pos b1, f1, Option.bind_some, if_pos b1, f2, Option.bind_some, if_pos rfl, law_e]
  rw [if_neg h11]
  by_cases h12 : op = 12
  · rw [if_pos h12]
    obtain ⟨r, f1, f2⟩ := eq_says I x1
    refine ⟨M, T, sp, dr, ?_, I⟩
    rw [if_pos b1, f1, Option.bind_some, if_pos b1, f2, Option.bind_some, if_pos rfl, law_e]
  rw [if_neg h12]
  by_cases h13 : op = 13
  · rw [if_pos h13]
    obtain ⟨r, f1, f2⟩ := eq_answers I x1 x2 x3
    refine ⟨M, T, sp, dr, ?_, I⟩
    rw [if_pos b1, if_pos b2, if_pos b3, f1, Option.bind_some, if_pos b1, if_pos b2, if_pos b3, f2, Option.bind_some, if_pos rfl, law_e]
  rw [if_neg h13]
  by_cases h14 : op = 14
  · rw [if_pos h14]
    obtain ⟨r, f1, f2⟩ := eq_mute I x1
    refine ⟨M, T, sp, dr, ?_, I⟩
    rw [if_pos b1, f1, Option.bind_some, if_pos b1, f2, Option.bind_some, if_pos rfl, law_e]
  rw [if_neg h14]
  by_cases h15 : op = 15
  · rw [if_pos h15]
    obtain ⟨r, f1, f2⟩ := eq_best I x1
    refine ⟨M, T, sp, dr, ?_, I⟩
    rw [if_pos b1, f1, Option.bind_some, if_pos b1, f2, Option.bind_some, if_pos rfl, law_e]
  rw [if_neg h15]
  by_cases h16 : op = 16
  · rw [if_pos h16]
    obtain ⟨r, f1, f2⟩ := eq_bar I x1 x2
    refine ⟨M, T, sp, dr, ?_, I⟩
    rw [if_pos b1, if_pos b2, f1, Option.bind_some, if_pos b1, if_pos b2, f2, Option.bind_some, if_pos rfl, law_e]
  rw [if_neg h16]
  by_cases h17 : op = 17
  · rw [if_pos h17]
    obtain ⟨r, M2, f1, f2, n2, I2⟩ := eq_chain I x1 x2
    refine ⟨M2, T, sp, dr, ?_, I2⟩
    rw [if_pos b1, if_pos b2, f1, Option.bind_some, if_pos b1, if_pos b2, f2, Option.bind_some, if_pos n2, if_pos rfl, law_e]
  rw [if_neg h17]
  by_cases h18 : op = 18
  · rw [if_pos h18]
    obtain ⟨r, M2, f1, f2, n2, I2⟩ := eq_ring I x1
    refine ⟨M2, T, sp, dr, ?_, I2⟩
    rw [if_pos b1, f1, Option.bind_some, if_pos b1, f2, Option.bind_some, if_pos n2, if_pos rfl, law_e]
  rw [if_neg h18]
  by_cases h19 : op = 19
  · rw [if_pos h19]
    obtain ⟨r, f1, f2⟩ := eq_alphabet I x1 x2
    refine ⟨M, T, sp, dr, ?_, I⟩
    rw [if_pos b1, if_pos b2, f1, Option.bind_some, if_pos b1, if_pos b2, f2, Option.bind_some, if_pos rfl, law_e]
  rw [if_neg h19]
  by_cases h20 : op = 20
  · rw [if_pos h20]
    obtain ⟨r, f1, f2⟩ := eq_asked I x1 x2
    refine ⟨M, T, sp, dr, ?_, I⟩
    rw [if_pos b1, if_pos b2, f1, Option.bind_some, if_pos b1, if_pos b2, f2, Option.bind_some, if_pos rfl, law_e]
  rw [if_neg h20]
  by_cases h21 : op = 21
  · rw [if_pos h21]
    obtain ⟨r, M1, M2, f1, n1, f2, n2, I2⟩ := eq_rate I x1 x2
    refine ⟨M2, T, sp, dr, ?_, I2⟩
    rw [if_pos b1, if_pos b2, f1, Option.bind_some, if_pos n1, if_pos b1, if_pos b2, f2, Option.bind_some, if_pos n2, if_pos rfl, law_e]
  rw [if_neg h21]
  by_cases h22 : op = 22
  · rw [if_pos h22]
    obtain ⟨r, M1, M2, f1, n1, f2, n2, I2⟩ := eq_keep I x1
    refine ⟨M2, T, sp, dr, ?_, I2⟩
    rw [if_pos b1, f1, Option.bind_some, if_pos n1, if_pos b1, f2, Option.bind_some, if_pos n2, if_pos rfl, law_e]
  rw [if_neg h22]
  by_cases h23 : op = 23
  · rw [if_pos h23]
    obtain ⟨r, M1, M2, f1, n1, f2, n2, I2⟩ := eq_back I x1
    refine ⟨M2, T, sp, dr, ?_, I2⟩
    rw [if_pos b1, f1, Option.bind_some, if_pos n1, if_pos b1, f2, Option.bind_some, if_pos n2, if_pos rfl, law_e]
  rw [if_neg h23]
  by_cases h24 : op = 24
  · rw [if_pos h24]
    obtain ⟨r, f1, f2⟩ := eq_count I x1
    refine ⟨M, T, sp, dr, ?_, I⟩
    rw [if_pos b1, f1, Option.bind_some, if_pos b1, f2, Option.bind_some, if_pos rfl, law_e]
  rw [if_neg h24]
  by_cases h25 : op = 25
  · rw [if_pos h25]
    obtain ⟨r, f1, f2⟩ := eq_trace I
    refine ⟨M, T, sp, dr, ?_, I⟩
    rw [f1, Option.bind_some, f2, Option.bind_some, if_pos (lcmp_0.mpr rfl), law_e]
  rw [if_neg h25]
  exact ⟨M, T, sp, dr, law_e, I⟩
theorem law_loop {lim L : Nat} {xs : Nat → Int32} (hL : L ≤ 2048) : ∀ d fuel j M T sp dr, L ≤ j + 4 * d → j ≤ L → d < fuel → Inv M T sp dr → ∃ M', lp (fun t => z_L_law_18 lim L xs t.2 0 81 t.1) fuel (nI j, M) = some (1, M') := by
  have out : ∀ j, L < j + 4 → j ≤ L → Int32.ofNat L - 4 < nI j := by
    intro j h1 h2
    rw [Int32.lt_iff_toInt_lt, show Int32.ofNat L = nI L from rfl, show (4 : Int32) = nI 4 from rfl, pk_sub_toInt (by omega) (by omega)]
    have e : (nI j).toInt = (j : Int) := by
      have := pk_sub_toInt (a := j) (b := 0) (by omega) (by decide)
      rw [show nI j - nI 0 = nI j from pk_sub (a := j) (b := 0) (by omega)] at this
      simpa using this
    rw [e]
    omega
  intro d
  induction d with
  | zero =>
    intro fuel j M T sp dr h1 h2 hf I
    obtain ⟨fuel, rfl⟩ : ∃ m, fuel = m + 1 := ⟨fuel - 1, by omega⟩
    refine ⟨M, lp_l ?_⟩
    show z_L_law_18 lim L xs M 0 81 (nI j) = _
    unfold z_L_law_18
    rw [if_pos (out j (by omega) h2)]
  | succ d ih =>
    intro fuel j M T sp dr h1 h2 hf I
    obtain ⟨fuel, rfl⟩ : ∃ m, fuel = m + 1 := ⟨fuel - 1, by omega⟩
    by_cases h4 : j + 4 ≤ L
    · obtain ⟨M1, T1, sp1, dr1, f1, I1⟩ := law_step (lim := lim) (xs := xs) hL h4 I
      obtain ⟨M', f'⟩ := ih fuel (j + 4) M1 T1 sp1 dr1 (by omega) h4 (by omega) I1
      refine ⟨M', ?_⟩
      rw [lp_e (t := (nI (j + 4), M1)) f1]
      exact f'
    · refine ⟨M, lp_l ?_⟩
      show z_L_law_18 lim L xs M 0 81 (nI j) = _
      unfold z_L_law_18
      rw [if_pos (out j (by omega) h2)]
