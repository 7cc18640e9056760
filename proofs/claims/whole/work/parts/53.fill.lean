/-! PURE: putIntoGroup, fill -/
def GM (M : MM) (A : List Nat) (g : Nat) (B N G : Nat → Nat) : Prop := gI M 3 13 = nI g ∧ (∀ k, k < g → gI M 13 k = nI (B k) ∧ gI M 14 k = nI (N k)) ∧ ∀ m, m ∈ A → gI M 15 m = nI (G m)
def PG (p j : Nat) : Prop := (p = 3 ∧ j = 13) ∨ (13 ≤ p ∧ p ≤ 15)
theorem GM.agg {M M' : MM} {A : List Nat} {g : Nat} {B N G : Nat → Nat} {P : Nat → Nat → Prop} (h : GM M A g B N G) (a : AgG M M' P) (hd : ∀ p j, P p j → ¬ PG p j) : GM M' A g B N G := by
  have e : ∀ p j, PG p j → gI M' p j = gI M p j := fun p j h => a.2.2.2 p j (fun q => hd p j q h)
  refine ⟨by rw [e 3 13 (Or.inl ⟨rfl, rfl⟩)]; exact h.1, fun k hk => ?_, fun m hm => ?_⟩
  · rw [e 13 k (Or.inr ⟨by decide, by decide⟩), e 14 k (Or.inr ⟨by decide, by decide⟩)]
    exact h.2.1 k hk
  · rw [e 15 m (Or.inr ⟨by decide, by decide⟩)]
    exact h.2.2 m hm
theorem GM.s13 {M : MM} {A : List Nat} {g k v : Nat} {B N G : Nat → Nat} (h : GM M A g B N G) : GM (sI M 13 k (nI v)) A g (upN B k v) N G := by
  refine ⟨by rw [gp_cell (by decide)]; exact h.1, fun j hj => ?_, fun m hm => by rw [gp_cell (by decide)]; exact h.2.2 m hm⟩
  by_cases e : j = k
  · have q := (h.2.1 j hj).2
    rw [e] at q
    rw [e, gp_same, gp_cell (by decide), upN_s]
    exact ⟨rfl, q⟩
  · rw [gp_oth e, gp_cell (by decide), upN_o e]
    exact h.2.1 j hj
theorem GM.s14 {M : MM} {A : List Nat} {g k v : Nat} {B N G : Nat → Nat} (h : GM M A g B N G) : GM (sI M 14 k (nI v)) A g B (upN N k v) G := by
  refine ⟨by rw [gp_cell (by decide)]; exact h.1, fun j hj => ?_, fun m hm => by rw [gp_cell (by decide)]; exact h.2.2 m hm⟩
  by_cases e : j = k
  · have q := (h.2.1 j hj).1
    rw [e] at q
    rw [e, gp_same, gp_cell (by decide), upN_s]
    exact ⟨q, rfl⟩
  · rw [gp_oth e, gp_cell (by decide), upN_o e]
    exact h.2.1 j hj
theorem GM.s15 {M : MM} {A : List Nat} {g k l : Nat} {B N G : Nat → Nat} (h : GM M A g B N G) (hA : ∀ x, x ∈ A → x < l) : GM (sI M 15 l (nI k)) (A ++ [l]) g B N (upN G l k) := by
  refine ⟨by rw [gp_cell (by decide)]; exact h.1, fun j hj => by rw [gp_cell (by decide), gp_cell (by decide)]; exact h.2.1 j hj, fun m hm => ?_⟩
  rcases List.mem_append.mp hm with q | q
  · have := hA m q
    rw [gp_oth (show ¬ m = l by omega), upN_o (show ¬ m = l by omega)]
    exact h.2.2 m q
  · have e : m = l := by simpa using q
    rw [e, gp_same, upN_s]
theorem GM.up {M : MM} {A : List Nat} {g l : Nat} {B N G : Nat → Nat} (h : GM M A g B N G) : GM (sI (sI (sI M 3 13 (nI (g + 1))) 13 g (nI l)) 14 g 0) A (g + 1) (upN B g l) (upN N g 0) G := by
  refine ⟨by rw [gp_cell (by decide), gp_cell (by decide), gp_same], fun j hj => ?_, fun m hm => by rw [gp_cell (by decide), gp_cell (by decide), gp_cell (by decide)]; exact h.2.2 m hm⟩
  by_cases e : j = g
  · rw [e, gp_cell (by decide), gp_same, gp_same, upN_s, upN_s]
    exact ⟨rfl, rfl⟩
  · rw [gp_cell (by decide), gp_oth e, gp_cell (by decide), gp_oth e, gp_cell (by decide), gp_cell (by decide), upN_o e, upN_o e]
    exact h.2.1 j (by omega)
theorem sc_key {T : TG} {l m : Nat} (hT : TOK T) (rl : isRow T l = true) (rm : isRow T m = true) : (lN (pk 8 (cn T m)) = lN (pk 8 (cn T l))) ↔ sameC T m l = true := by
  rw [pk8_inj hT rl rm, dd_0, sc_sym, sc_iff]
theorem c_put {M : MM} {T : TG} {sp dr l g : Nat} {B N G : Nat → Nat} {A : List Nat} (L : LAY M sp dr) (hT : TOK T) (hl : l < 1000) (hL : isL T l = true) (hA : ∀ x, x ∈ A → 1 ≤ x ∧ x < l ∧ isL T x = true) (hAl : A.length ≤ 819) (hO : ∀ x, x ≤ l → isRow T x = true → gI M 6 x = nI (ownL T x) ∧ gJ M 9 x = lN (pk 8 (cn T x))) (hM : GM M A g B N G) (hI : GI T A g B N G) : ∃ M' g' B' N' G', f_X1_putIntoGroup M 3 (nI l) = some M' ∧ AgP M M' PG ∧ GM M' (A ++ [l]) g' B' N' G' ∧ GI T (A ++ [l]) g' B' N' G' := by
  have hgl := hI.1
  have hA2 : ∀ x, x ∈ A → x < l := fun x hx => (hA x hx).2.1
  have hA3 : ∀ x, x ∈ A → 1 ≤ x ∧ x < l := fun x hx => ⟨(hA x hx).1, (hA x hx).2.1⟩
  have hrl := isL_row hL
  have hB : ∀ j, j < g → 1 ≤ B j ∧ B j < l ∧ isL T (B j) = true := fun j hj => hA _ (hI.2.1 j hj).1
  have hN : ∀ j, j < g → N j = 0 ∨ (1 ≤ N j ∧ N j < l ∧ isL T (N j) = true) := fun j hj => by
    have q := (hI.2.1 j hj).2.2
    rcases pick_mem (T := T) (p := ans0 T (B j)) A with r | r
    · exact Or.inl (q.symm.trans r)
    · rw [q] at r
      exact Or.inr (hA _ r.1)
  obtain ⟨k, -, hkg, hall, hend⟩ := run_ex (fun j => sameC T (B j) l = false) g g 0 (by omega)
  have srch : ∀ d fuel i, i + d = k → d < fuel → lp (fun t => z_X1_putIntoGroup_2 M 3 (nI l) t) fuel (nI i) = j_X1_putIntoGroup_37 M 3 (nI l) (nI k) := by
    intro d
    induction d with
    | zero =>
      intro fuel i hi hf
      obtain ⟨fuel, rfl⟩ : ∃ m, fuel = m + 1 := ⟨fuel - 1, by omega⟩
      obtain rfl : i = k := by omega
      refine lp_m ?_
      show z_X1_putIntoGroup_2 M 3 (nI l) (nI i) = _
      unfold z_X1_putIntoGroup_2
      rw [s3f L, Option.bind_some, hM.1]
      by_cases e : i = g
      · rw [if_pos (by rw [e]; exact Int32.le_refl _)]
      · have hig : i < g := by omega
        obtain ⟨b1, b2, b3⟩ := hB i hig
        have hs : sameC T (B i) l = true := by
          have := hend.resolve_left e
          cases q : sameC T (B i) l with
          | true => rfl
          | false => exact absurd q this
        rw [if_neg (fun e => by have := (nI_leI (by omega) (by omega)).mp e; omega), q9 L, Option.bind_some, q13 L, Option.bind_some, ai3 L R13 (by omega), Option.bind_some, (hM.2.1 i hig).1, aj9 L (by omega), Option.bind_some, Option.bind_some, aj9 L hl, Option.bind_some, (hO (B i) (by omega) (isL_row b3)).2, (hO l (Nat.le_refl _) hrl).2, if_pos (lcmp_0.mpr ((sc_key hT hrl (isL_row b3)).mpr hs))]
    | succ d ih =>
      intro fuel i hi hf
      obtain ⟨fuel, rfl⟩ : ∃ m, fuel = m + 1 := ⟨fuel - 1, by omega⟩
      have hig : i < g := by omega
      obtain ⟨b1, b2, b3⟩ := hB i hig
      have hs : ¬ sameC T (B i) l = true := by
        rw [hall i (Nat.zero_le _) (by omega)]
        decide
      rw [lp_e (t := nI (i + 1))]
      · exact ih fuel (i + 1) (by omega) (by omega)
      · show z_X1_putIntoGroup_2 M 3 (nI l) (nI i) = _
        unfold z_X1_putIntoGroup_2
        rw [s3f L, Option.bind_some, hM.1, if_neg (fun e => by have := (nI_leI (by omega) (by omega)).mp e; omega), q9 L, Option.bind_some, q13 L, Option.bind_some, ai3 L R13 (by omega), Option.bind_some, (hM.2.1 i hig).1, aj9 L (by omega), Option.bind_some, Option.bind_some, aj9 L hl, Option.bind_some, (hO (B i) (by omega) (isL_row b3)).2, (hO l (Nat.le_refl _) hrl).2, if_neg (fun e => hs ((sc_key hT hrl (isL_row b3)).mp (lcmp_0.mp e))), nI_1]
  have hf : f_X1_putIntoGroup M 3 (nI l) = j_X1_putIntoGroup_37 M 3 (nI l) (nI k) := by
    unfold f_X1_putIntoGroup
    rw [if_pos (r3m L)]
    exact srch k FU 0 (by omega) (show k < 4000 by omega)
  rw [hf]
  have M2 : GM (sI M 15 l (nI k)) (A ++ [l]) g B N (upN G l k) := hM.s15 hA2
  have A2 : AgP M (sI M 15 l (nI k)) PG := AgP.rf.sI (Or.inr ⟨by decide, by decide⟩)
  have o2 : ∀ x, x ≤ l → isRow T x = true → gI (sI M 15 l (nI k)) 6 x = nI (ownL T x) := fun x hx hr => by rw [gp_cell (by decide)]; exact (hO x hx hr).1
  unfold j_X1_putIntoGroup_37
  rw [q15 L, Option.bind_some, wi3 L R15 hl, Option.bind_some]
  have L2 := L.agp A2
  generalize sI M 15 l (nI k) = N2 at M2 A2 o2 L2
  rw [s3f L2, Option.bind_some, M2.1]
  by_cases e : k = g
  · subst e
    refine ⟨_, k + 1, upN B k l, upN N k 0, upN G l k, ?_, ((A2.sI (p := 3) (j := 13) (v := nI (k + 1)) (Or.inl ⟨rfl, rfl⟩)).sI (p := 13) (j := k) (v := nI l) (Or.inr ⟨by decide, by decide⟩)).sI (p := 14) (j := k) (v := 0) (Or.inr ⟨by decide, by decide⟩), M2.up, hI.new hA2 (fun j hj => hall j (Nat.zero_le _) hj)⟩
    rw [if_pos rfl, Option.bind_some, nI_1, w3f L2, Option.bind_some, q13 L2.si, Option.bind_some, wi3 L2.si R13 (by omega), Option.bind_some, q14 L2.si.si, Option.bind_some, wi3 L2.si.si R14 (by omega), Option.bind_some]
  · have hk : k < g := by omega
    have hs : sameC T (B k) l = true := by
      have := hend.resolve_left e
      cases q : sameC T (B k) l with
      | true => rfl
      | false => exact absurd q this
    obtain ⟨b1, b2, b3⟩ := hB k hk
    obtain ⟨m1, m2⟩ := M2.2.1 k hk
    have ol := ownL_le hT hrl
    have ob := ownL_le hT (isL_row b3)
    have c6 : (nI (ownL T l) ≤ nI (ownL T (B k))) ↔ ownL T l ≤ ownL T (B k) := nI_leI (by omega) (by omega)
    rw [if_neg (fun q => e ((nI_eq (by omega) (by omega)).mp q)), q6 L2, Option.bind_some, ai3 L2 R6 hl, Option.bind_some, Option.bind_some, q13 L2, Option.bind_some, ai3 L2 R13 (by omega), Option.bind_some, m1, ai3 L2 R6 (by omega), Option.bind_some, o2 l (Nat.le_refl _) hrl, o2 (B k) (by omega) (isL_row b3)]
    by_cases ho : ownL T (B k) < ownL T l
    · refine ⟨sI (sI N2 14 k (nI (B k))) 13 k (nI l), g, upN B k l, upN N k (B k), upN G l k, ?_, (A2.sI (p := 14) (j := k) (v := nI (B k)) (Or.inr ⟨by decide, by decide⟩)).sI (p := 13) (j := k) (v := nI l) (Or.inr ⟨by decide, by decide⟩), M2.s14.s13, hI.old1 hA3 hk hs ho⟩
      rw [if_neg (fun q => by have := c6.mp q; omega), q14 L2, Option.bind_some, Option.bind_some, ai3 L2 R13 (by omega), Option.bind_some, m1, wi3 L2 R14 (by omega), Option.bind_some, q13 L2.si, Option.bind_some, wi3 L2.si R13 (by omega), Option.bind_some]
    · rw [if_pos (c6.mpr (by omega)), q14 L2, Option.bind_some, ai3 L2 R14 (by omega), Option.bind_some, m2]
      unfold j_X1_putIntoGroup_150
      rw [q14 L2, Option.bind_some, wi3 L2 R14 (by omega), Option.bind_some]
      have yes : (N k = 0 ∨ ownL T (N k) < ownL T l) → ∃ M' g' B' N' G', some (sI N2 14 k (nI l)) = some M' ∧ AgP M M' PG ∧ GM M' (A ++ [l]) g' B' N' G' ∧ GI T (A ++ [l]) g' B' N' G' := fun hn => ⟨sI N2 14 k (nI l), g, B, upN N k l, upN G l k, rfl, A2.sI (p := 14) (j := k) (v := nI l) (Or.inr ⟨by decide, by decide⟩), M2.s14, hI.old2 hA3 hk hs ho hn⟩
      by_cases hn0 : N k = 0
      · rw [if_pos (show nI (N k) = 0 by rw [hn0]; rfl)]
        exact yes (Or.inl hn0)
      · obtain ⟨n1, n2, n3⟩ := (hN k hk).resolve_left hn0
        have on := ownL_le hT (isL_row n3)
        have c7 : (nI (ownL T l) ≤ nI (ownL T (N k))) ↔ ownL T l ≤ ownL T (N k) := nI_leI (by omega) (by omega)
        rw [if_neg (show ¬ nI (N k) = 0 from fun q => hn0 ((nI_eq (b := 0) (by omega) (by decide)).mp q)), Option.bind_some, ai3 L2 R6 hl, Option.bind_some, Option.bind_some, Option.bind_some, ai3 L2 R14 (by omega), Option.bind_some, m2, ai3 L2 R6 (by omega), Option.bind_some, o2 l (Nat.le_refl _) hrl, o2 (N k) (by omega) (isL_row n3)]
        by_cases hn : ownL T (N k) < ownL T l
        · rw [if_neg (fun q => by have := c7.mp q; omega)]
          exact yes (Or.inr hn)
        · rw [if_pos (c7.mpr (by omega))]
          exact ⟨N2, g, B, N, upN G l k, rfl, A2, M2, hI.old3 hA3 hk hs ho (fun q => q.elim hn0 hn)⟩
