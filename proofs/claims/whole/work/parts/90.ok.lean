/-- THE PURE PART: the law's function answers 1 on every script -/
theorem law_ok (L : Nat) (xs : Nat → Int32) (hL : L ≤ 2048) : ∃ M' : MM, f_L_law 93 L xs M0 = some (1, M') := by
  obtain ⟨M2, f2, z2, c2⟩ := start6
  obtain ⟨M4, f4, n4, I4⟩ := start7 z2 c2
  have m2 : M2.1 = 81 := by
    unfold chk at c2
    rw [Bool.and_eq_true, Bool.and_eq_true] at c2
    exact of_decide_eq_true c2.1.1
  obtain ⟨M', f'⟩ := law_loop (lim := 93) (xs := xs) hL 512 FU 0 M4 T0 23 52 (by omega) (Nat.zero_le _) (show 512 < 4000 by decide) I4
  refine ⟨M', ?_⟩
  have e1 : nObj M0 93 6 = some (nP M0) := by
    unfold nObj
    rw [if_pos (by decide)]
  have e3 : nObj M2 93 7 = some (nP M2) := by
    unfold nObj
    rw [m2, if_pos (by decide)]
  have q1 : (nP M0).1 = 1 := rfl
  have q3 : (nP M2).1 = 82 := by show M2.1 + 1 = 82; rw [m2]
  have q0 : (M0 : MM).1 = 0 := rfl
  unfold f_L_law
  rw [e1, Option.bind_some, q1, q0, show 1 + 80 = 81 from rfl, f2, Option.bind_some, if_pos ⟨m2, by decide⟩, e3, Option.bind_some, q3, m2, show 82 + 11 = 93 from rfl, f4, Option.bind_some, if_pos ⟨n4, by decide⟩]
  exact f'
