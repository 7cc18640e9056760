/-! PURE: the text's tokens, class side -/
theorem nI_sub (a b : Nat) : nI (a + b) - nI a = nI b := by
  rw [← nI_add, Int32.add_comm]
  exact Int32.add_sub_cancel _ _
theorem sI_sI {M : MM} {p j : Nat} {a b : Int32} : sI (sI M p j a) p j b = sI M p j b := by
  unfold sI
  congr 2
  funext x c
  dsimp only
  by_cases h : x = p ∧ c = j
  · rw [if_pos h, if_pos h]
  · rw [if_neg h, if_neg h, if_neg h]
theorem sI_cm {M : MM} {p j k : Nat} {a b : Int32} (h : ¬ j = k) : sI (sI M p j a) p k b = sI (sI M p k b) p j a := by
  unfold sI
  congr 2
  funext x c
  dsimp only
  by_cases h1 : x = p ∧ c = k
  · rw [if_pos h1, if_neg (fun e => h (e.2.symm.trans h1.2)), if_pos h1]
  · rw [if_neg h1]
    by_cases h2 : x = p ∧ c = j
    · rw [if_pos h2, if_pos h2]
    · rw [if_neg h2, if_neg h2, if_neg h1]
theorem lp_m {σ ρ : Type} {step : σ → Option (ρ ⊕ σ)} {n : Nat} {s : σ} {o : Option ρ} (h : step s = o.map .inl) : lp step (n + 1) s = o := by
  unfold lp
  rw [h]
  cases o <;> rfl
theorem lp_e {σ ρ : Type} {step : σ → Option (ρ ⊕ σ)} {n : Nat} {s t : σ} (h : step s = some (.inr t)) : lp step (n + 1) s = lp step n t := by
  conv => lhs; unfold lp
  rw [h]
def kof (b : Nat) : Nat := if 97 ≤ b ∧ b ≤ 122 then 1 else if 48 ≤ b ∧ b ≤ 57 then 2 else if b = 59 then 3 else 4
theorem kof1 {b : Nat} : kof b = 1 ↔ 97 ≤ b ∧ b ≤ 122 := by
  unfold kof
  split
  · rename_i h; simp [h]
  · rename_i h
    split
    · constructor <;> intro q <;> omega
    · split <;> constructor <;> intro q <;> first | omega | exact absurd q h
theorem kof2 {b : Nat} : kof b = 2 ↔ 48 ≤ b ∧ b ≤ 57 := by
  unfold kof
  split
  · constructor <;> intro q <;> omega
  · split
    · rename_i h; simp [h]
    · rename_i h
      split <;> constructor <;> intro q <;> first | omega | exact absurd q h
theorem kof3 {b : Nat} : kof b = 3 ↔ b = 59 := by
  unfold kof
  split
  · constructor <;> intro q <;> omega
  · split
    · constructor <;> intro q <;> omega
    · split <;> constructor <;> intro q <;> omega
theorem kof_r (b : Nat) : kof b = 1 ∨ kof b = 2 ∨ kof b = 3 ∨ kof b = 4 := by
  unfold kof
  split
  · simp
  · split
    · simp
    · split <;> simp
def TOKN (B : Nat → Nat) (n p s e k : Nat) : Prop := p ≤ s ∧ s ≤ n ∧ (∀ i, p ≤ i → i < s → B i = 32) ∧ ((s = n ∧ e = s ∧ k = 0) ∨ (s < n ∧ ¬ B s = 32 ∧ k = kof (B s) ∧ s < e ∧ e ≤ n ∧ ((k = 1 ∨ k = 2) → (∀ i, s ≤ i → i < e → kof (B i) = k) ∧ (e = n ∨ ¬ kof (B e) = k)) ∧ (¬ (k = 1 ∨ k = 2) → e = s + 1)))
theorem run_ex (P : Nat → Prop) (n : Nat) : ∀ d i, i + d = n → ∃ e, i ≤ e ∧ e ≤ n ∧ (∀ j, i ≤ j → j < e → P j) ∧ (e = n ∨ ¬ P e)
  | 0, i, h => ⟨i, by omega, by omega, fun j h1 h2 => absurd h1 (by omega), Or.inl (by omega)⟩
  | d + 1, i, h => by
    by_cases hp : P i
    · obtain ⟨e, h1, h2, h3, h4⟩ := run_ex P n d (i + 1) (by omega)
      refine ⟨e, by omega, h2, fun j a b => ?_, h4⟩
      by_cases hj : j = i
      · rw [hj]; exact hp
      · exact h3 j (by omega) b
    · exact ⟨i, by omega, by omega, fun j h1 h2 => absurd h1 (by omega), Or.inr hp⟩
theorem tok_ex (B : Nat → Nat) (n p : Nat) : ∃ t : Nat × Nat × Nat, p ≤ n → TOKN B n p t.1 t.2.1 t.2.2 := by
  by_cases hp : p ≤ n
  · obtain ⟨s, h1, h2, h3, h4⟩ := run_ex (fun i => B i = 32) n (n - p) p (by omega)
    by_cases hs : s = n
    · exact ⟨(s, s, 0), fun _ => ⟨h1, h2, h3, Or.inl ⟨hs, rfl, rfl⟩⟩⟩
    · have hn : ¬ B s = 32 := h4.resolve_left hs
      by_cases hk : kof (B s) = 1 ∨ kof (B s) = 2
      · obtain ⟨e, g1, g2, g3, g4⟩ := run_ex (fun i => kof (B i) = kof (B s)) n (n - (s + 1)) (s + 1) (by omega)
        refine ⟨(s, e, kof (B s)), fun _ => ⟨h1, h2, h3, Or.inr ⟨by omega, hn, rfl, g1, g2, fun _ => ⟨fun i a b => ?_, g4⟩, fun q => absurd hk q⟩⟩⟩
        by_cases hi : i = s
        · rw [hi]
        · exact g3 i (by omega) b
      · exact ⟨(s, s + 1, kof (B s)), fun _ => ⟨h1, h2, h3, Or.inr ⟨by omega, hn, rfl, Nat.lt_succ_self s, (show s + 1 ≤ n by omega), fun q => absurd q hk, fun _ => rfl⟩⟩⟩
  · exact ⟨(0, 0, 0), fun h => absurd h hp⟩
noncomputable def tk (B : Nat → Nat) (n p : Nat) : Nat × Nat × Nat := Classical.choose (tok_ex B n p)
theorem tk_s {B : Nat → Nat} {n p : Nat} (h : p ≤ n) : TOKN B n p (tk B n p).1 (tk B n p).2.1 (tk B n p).2.2 := Classical.choose_spec (tok_ex B n p) h
/-! what is kept when only the places of P are written -/
def AgP (M M' : MM) (P : Nat → Nat → Prop) : Prop := M'.1 = M.1 ∧ (∀ p j, gR M' p j = gR M p j) ∧ (∀ p j, gJ M' p j = gJ M p j) ∧ ∀ p j, ¬ P p j → gI M' p j = gI M p j
theorem AgP.rf {M : MM} {P : Nat → Nat → Prop} : AgP M M P := ⟨rfl, fun _ _ => rfl, fun _ _ => rfl, fun _ _ _ => rfl⟩
theorem AgP.sI {M M' : MM} {P : Nat → Nat → Prop} {p j : Nat} {v : Int32} (h : AgP M M' P) (hp : P p j) : AgP M (sI M' p j v) P := by
  refine ⟨h.1, h.2.1, h.2.2.1, fun q k hq => ?_⟩
  rw [gI_sI, if_neg (show ¬ (q = p ∧ k = j) from fun e => hq (e.1 ▸ e.2 ▸ hp))]
  exact h.2.2.2 q k hq
theorem AgP.tr {M M' M2 : MM} {P : Nat → Nat → Prop} (h : AgP M M' P) (h2 : AgP M' M2 P) : AgP M M2 P := ⟨h2.1.trans h.1, fun p j => (h2.2.1 p j).trans (h.2.1 p j), fun p j => (h2.2.2.1 p j).trans (h.2.2.1 p j), fun p j hp => (h2.2.2.2 p j hp).trans (h.2.2.2 p j hp)⟩
theorem AgP.mono {M M' : MM} {P Q : Nat → Nat → Prop} (h : AgP M M' P) (hs : ∀ p j, P p j → Q p j) : AgP M M' Q := ⟨h.1, h.2.1, h.2.2.1, fun p j hp => h.2.2.2 p j (fun e => hp (hs p j e))⟩
theorem LAY.agp {M M' : MM} {P : Nat → Nat → Prop} {sp dr : Nat} (h : LAY M sp dr) (a : AgP M M' P) : LAY M' sp dr := h.of a.1 a.2.1
def PT (p j : Nat) : Prop := p = 1 ∧ 2 ≤ j
def TX (M : MM) (B : Nat → Nat) (n : Nat) : Prop := gI M 1 1 = nI n ∧ ∀ i, i < n → gI M 2 i = nI (B i) ∧ B i < 256
theorem TX.agp {M M' : MM} {P : Nat → Nat → Prop} {B : Nat → Nat} {n : Nat} (h : TX M B n) (a : AgP M M' P) (h1 : ¬ P 1 1) (h2 : ∀ j, ¬ P 2 j) : TX M' B n :=
  ⟨by rw [a.2.2.2 1 1 h1]; exact h.1, fun i hi => by rw [a.2.2.2 2 i (h2 i)]; exact h.2 i hi⟩
theorem c_isIn {M : MM} {sp dr n i a b : Nat} {B : Nat → Nat} (L : LAY M sp dr) (X : TX M B n) (hn : n ≤ 200) (hi : i < n) (ha : a < 256) (hb : b < 256) : f_X3_isIn M 1 (nI i) (nI a) (nI b) = some (if a ≤ B i ∧ B i ≤ b then 1 else 0) := by
  have hN := L.1
  obtain ⟨x1, x2⟩ := X.2 i hi
  have r := fR_e (p := 1) (c := 3) (k := 0) hN (by decide) rfl
  rw [ly_1_0 L] at r
  have ar := aI_e (p := 2) (i := i) hN (by decide) rfl (by rw [lnv_2]; omega)
  rw [x1] at ar
  unfold f_X3_isIn
  rw [if_pos (by rw [hN]; decide), r, Option.bind_some, ar, Option.bind_some]
  have c1 : (nI (B i) < nI a) = (B i < a) := nn_lt (by omega) (by omega)
  have c2 : (nI b < nI (B i)) = (b < B i) := nn_lt (by omega) (by omega)
  by_cases h1 : B i < a
  · rw [if_pos (by rw [c1]; exact h1), if_neg (by omega)]
  · rw [if_neg (by rw [c1]; exact h1), Option.bind_some, ar, Option.bind_some]
    by_cases h2 : b < B i
    · rw [if_pos (by rw [c2]; exact h2), if_neg (by omega)]
    · rw [if_neg (by rw [c2]; exact h2), if_pos (by omega)]
theorem c_az {M : MM} {sp dr n i : Nat} {B : Nat → Nat} (L : LAY M sp dr) (X : TX M B n) (hn : n ≤ 200) (hi : i < n) : f_X3_isIn M 1 (nI i) 97 122 = some (if kof (B i) = 1 then 1 else 0) := by
  rw [show (97 : Int32) = nI 97 from rfl, show (122 : Int32) = nI 122 from rfl, c_isIn L X hn hi (by decide) (by decide)]
  congr 1
  by_cases h : kof (B i) = 1
  · rw [if_pos h, if_pos (kof1.mp h)]
  · rw [if_neg h, if_neg (fun e => h (kof1.mpr e))]
theorem c_09 {M : MM} {sp dr n i : Nat} {B : Nat → Nat} (L : LAY M sp dr) (X : TX M B n) (hn : n ≤ 200) (hi : i < n) : f_X3_isIn M 1 (nI i) 48 57 = some (if kof (B i) = 2 then 1 else 0) := by
  rw [show (48 : Int32) = nI 48 from rfl, show (57 : Int32) = nI 57 from rfl, c_isIn L X hn hi (by decide) (by decide)]
  congr 1
  by_cases h : kof (B i) = 2
  · rw [if_pos h, if_pos (kof2.mp h)]
  · rw [if_neg h, if_neg (fun e => h (kof2.mpr e))]
theorem c_ah {M : MM} {sp dr n i : Nat} {B : Nat → Nat} (L : LAY M sp dr) (X : TX M B n) (hn : n ≤ 200) (hi : i < n) (hk : kof (B i) = 1) : f_X3_isIn M 1 (nI i) 97 104 = some (if B i ≤ 104 then 1 else 0) := by
  rw [show (97 : Int32) = nI 97 from rfl, show (104 : Int32) = nI 104 from rfl, c_isIn L X hn hi (by decide) (by decide)]
  have h1 := (kof1.mp hk).1
  congr 1
  by_cases h : B i ≤ 104
  · rw [if_pos h, if_pos ⟨h1, h⟩]
  · rw [if_neg h, if_neg (fun e => h e.2)]
/-- the fields of the text -/
theorem tf {M : MM} {sp dr : Nat} (L : LAY M sp dr) (k : Nat) : fI M 1 3 k = some (gI M 1 k) := fI_e L.1 (by decide) rfl
theorem wtf {M : MM} {sp dr : Nat} (L : LAY M sp dr) (k : Nat) (v : Int32) : wfI M 1 3 k v = some (sI M 1 k v) := wfI_e L.1 (by decide) rfl
theorem tbr {M : MM} {sp dr : Nat} (L : LAY M sp dr) : fR M 1 3 0 = some 2 := by rw [fR_e L.1 (by decide) rfl]; exact ly_1_0 L
theorem tba {M : MM} {sp dr n i : Nat} {B : Nat → Nat} (L : LAY M sp dr) (X : TX M B n) (hn : n ≤ 200) (hi : i < n) : aI M 2 (nI i) = some (nI (B i)) := by
  rw [aI_e (p := 2) (i := i) L.1 (by decide) rfl (by rw [lnv_2]; omega), (X.2 i hi).1]
theorem LAY.s1 {M : MM} {sp dr p j : Nat} {v : Int32} (L : LAY M sp dr) : LAY (sI M p j v) sp dr := L.of rfl (fun _ _ => rfl)
theorem TX.s1 {M : MM} {B : Nat → Nat} {n j : Nat} {v : Int32} (X : TX M B n) (hj : 2 ≤ j) : TX (sI M 1 j v) B n := X.agp (AgP.rf.sI (P := PT) ⟨rfl, hj⟩) (fun e => absurd e.2 (by decide)) (fun _ e => absurd e.1 (by decide))
theorem g1_same {M : MM} {j : Nat} {v : Int32} : gI (sI M 1 j v) 1 j = v := by rw [gI_sI, if_pos ⟨rfl, rfl⟩]
theorem g1_oth {M : MM} {j k : Nat} {v : Int32} (h : ¬ k = j) : gI (sI M 1 j v) 1 k = gI M 1 k := by rw [gI_sI, if_neg (fun e => h e.2)]
theorem c_skip {sp dr n s : Nat} {B : Nat → Nat} {M : MM} (L : LAY M sp dr) (X : TX M B n) (hn : n ≤ 200) (hs : s ≤ n) (hs2 : s = n ∨ ¬ B s = 32) : ∀ d fuel i, i + d = s → d < fuel → (∀ j, i ≤ j → j < s → B j = 32) → lp (fun t => z_X3_advance_8 t 1) fuel (sI M 1 2 (nI i)) = j_X3_advance_46 (sI M 1 2 (nI s)) 1 := by
  intro d
  induction d with
  | zero =>
    intro fuel i hi hf h
    obtain ⟨fuel, rfl⟩ : ∃ m, fuel = m + 1 := ⟨fuel - 1, by omega⟩
    obtain rfl : i = s := by omega
    refine lp_m ?_
    have L' := L.s1 (p := 1) (j := 2) (v := nI i)
    have X' := X.s1 (j := 2) (v := nI i) (by decide)
    unfold z_X3_advance_8
    rw [tf L', Option.bind_some, tf L', Option.bind_some, g1_same, X'.1]
    by_cases h2 : i = n
    · rw [if_pos (by rw [h2]; exact Int32.le_refl _)]
    · rw [if_neg (fun e => by have := (nI_leI (by omega) (by omega)).mp e; omega), tbr L', Option.bind_some, Option.bind_some, tba L' X' hn (by omega), Option.bind_some]
      have hb := (X.2 i (by omega)).2
      rw [if_neg (show ¬ nI (B i) = 32 from fun e => hs2.resolve_left h2 ((nI_eq (b := 32) (by omega) (by decide)).mp e))]
  | succ d ih =>
    intro fuel i hi hf h
    obtain ⟨fuel, rfl⟩ : ∃ m, fuel = m + 1 := ⟨fuel - 1, by omega⟩
    have L' := L.s1 (p := 1) (j := 2) (v := nI i)
    have X' := X.s1 (j := 2) (v := nI i) (by decide)
    have e32 : nI (B i) = 32 := by rw [h i (by omega) (by omega)]; rfl
    rw [lp_e (t := sI M 1 2 (nI (i + 1)))]
    · exact ih fuel (i + 1) (by omega) (by omega) (fun j a b => h j (by omega) b)
    · unfold z_X3_advance_8
      rw [tf L', Option.bind_some, tf L', Option.bind_some, g1_same, X'.1, if_neg (fun e => by have := (nI_leI (by omega) (by omega)).mp e; omega), tbr L', Option.bind_some, Option.bind_some, tba L' X' hn (by omega), Option.bind_some, if_pos e32, Option.bind_some, wtf L', Option.bind_some, sI_sI, nI_1]
def sgn (B : Nat → Nat) (s i : Nat) : Bool := (List.range (i - s)).all fun j => decide (B (s + j) ≤ 104)
theorem sgn_s {B : Nat → Nat} {s i : Nat} (h : s ≤ i) : sgn B s (i + 1) = (sgn B s i && decide (B i ≤ 104)) := by
  unfold sgn
  rw [show i + 1 - s = (i - s) + 1 by omega, List.range_succ, List.all_append]
  simp [show s + (i - s) = i by omega]
theorem sgn_all {B : Nat → Nat} {s e : Nat} : sgn B s e = true ↔ ∀ i, s ≤ i → i < e → B i ≤ 104 := by
  unfold sgn
  constructor
  · intro h i h1 h2
    have := of_decide_eq_true (List.all_eq_true.mp h (i - s) (List.mem_range.mpr (by omega)))
    rw [show s + (i - s) = i by omega] at this
    exact this
  · intro h
    exact List.all_eq_true.mpr (fun j hj => decide_eq_true (h _ (by omega) (by have := List.mem_range.mp hj; omega)))
theorem c_tl {sp dr n s e : Nat} {B : Nat → Nat} {M : MM} (L : LAY M sp dr) (X : TX M B n) (hn : n ≤ 200) (he : e ≤ n) (hl : ∀ i, s ≤ i → i < e → kof (B i) = 1) (hs2 : e = n ∨ ¬ kof (B e) = 1) : ∀ d fuel i, i + d = e → d < fuel → s ≤ i → lp (fun t => z_X3_takeLetters_2 t.2 1 t.1) fuel (b2i (sgn B s i), sI M 1 3 (nI i)) = j_X3_takeLetters_66 (sI M 1 3 (nI e)) 1 (b2i (sgn B s e)) := by
  intro d
  induction d with
  | zero =>
    intro fuel i hi hf h
    obtain ⟨fuel, rfl⟩ : ∃ m, fuel = m + 1 := ⟨fuel - 1, by omega⟩
    obtain rfl : i = e := by omega
    refine lp_m ?_
    show z_X3_takeLetters_2 (sI M 1 3 (nI i)) 1 (b2i (sgn B s i)) = _
    have L' := L.s1 (p := 1) (j := 3) (v := nI i)
    have X' := X.s1 (j := 3) (v := nI i) (by decide)
    unfold z_X3_takeLetters_2
    rw [tf L', Option.bind_some, tf L', Option.bind_some, g1_same, X'.1]
    by_cases h2 : i = n
    · rw [if_pos (by rw [h2]; exact Int32.le_refl _)]
    · rw [if_neg (fun e => by have := (nI_leI (by omega) (by omega)).mp e; omega), Option.bind_some, c_az L' X' hn (by omega), Option.bind_some, if_neg (hs2.resolve_left h2), if_pos rfl]
  | succ d ih =>
    intro fuel i hi hf h
    obtain ⟨fuel, rfl⟩ : ∃ m, fuel = m + 1 := ⟨fuel - 1, by omega⟩
    have L' := L.s1 (p := 1) (j := 3) (v := nI i)
    have X' := X.s1 (j := 3) (v := nI i) (by decide)
    have hk := hl i h (by omega)
    rw [lp_e (t := (b2i (sgn B s (i + 1)), sI M 1 3 (nI (i + 1))))]
    · exact ih fuel (i + 1) (by omega) (by omega) (by omega)
    · show z_X3_takeLetters_2 (sI M 1 3 (nI i)) 1 (b2i (sgn B s i)) = _
      have h52 : ∀ b : Int32, j_X3_takeLetters_52 (sI M 1 3 (nI i)) 1 b = some (.inr (b, sI M 1 3 (nI (i + 1)))) := by
        intro b
        unfold j_X3_takeLetters_52
        rw [tf L', Option.bind_some, g1_same, wtf L', Option.bind_some, sI_sI, nI_1]
      unfold z_X3_takeLetters_2
      rw [tf L', Option.bind_some, tf L', Option.bind_some, g1_same, X'.1, if_neg (fun e => by have := (nI_leI (by omega) (by omega)).mp e; omega), Option.bind_some, c_az L' X' hn (by omega), Option.bind_some, if_pos hk, if_neg (by decide), sgn_s h]
      unfold j_X3_takeLetters_51
      rw [h52, h52]
      cases hsg : sgn B s i with
      | false => rfl
      | true =>
        rw [if_neg (by decide), Option.bind_some, c_ah L' X' hn (by omega) hk, Option.bind_some]
        by_cases hb : B i ≤ 104
        · rw [if_pos hb, if_neg (by decide), decide_eq_true hb]
          rfl
        · rw [if_neg hb, if_pos rfl, decide_eq_false hb]
          rfl
/-! names -/
def nmW (q i : Nat) : Nat := if q = 0 then [119, 111, 114, 100].getD i 0 else [115, 104, 97, 112, 101].getD i 0
def nmL (q : Nat) : Nat := if q = 0 then 4 else 5
def isNm (B : Nat → Nat) (s e q : Nat) : Bool := decide (e = s + nmL q) && (List.range (nmL q)).all fun i => decide (B (s + i) = nmW q i)
theorem nm_c : ∀ q, q < 2 → f_slen q = some (nI (nmL q)) ∧ ∀ i, i < nmL q → f_scharAt q (nI i) = some (nI (nmW q i)) := by decide +kernel
theorem nm_b : ∀ q, q < 2 → ∀ i, i < nmL q → nmW q i < 256 := by decide +kernel
theorem c_isName {M : MM} {sp dr n s e q : Nat} {B : Nat → Nat} (L : LAY M sp dr) (X : TX M B n) (hn : n ≤ 200) (hse : s ≤ e) (he : e ≤ n) (g2 : gI M 1 2 = nI s) (g3 : gI M 1 3 = nI e) (hq : q < 2) : f_X3_isName M 1 q = some (b2i (isNm B s e q)) := by
  obtain ⟨n1, n2⟩ := nm_c q hq
  have hm : nmL q < 6 := by unfold nmL; split <;> omega
  unfold f_X3_isName
  rw [if_pos (by rw [L.1]; decide), tf L, Option.bind_some, tf L, Option.bind_some, n1, Option.bind_some, g2, g3, show e = s + (e - s) by omega, nI_sub]
  have hz : (nI (e - s) = nI (nmL q)) = (e - s = nmL q) := nn_eq (by omega) (by omega)
  unfold isNm
  by_cases h : e - s = nmL q
  · rw [if_pos (by rw [hz]; exact h), show s + (e - s) = s + nmL q by omega, decide_eq_true rfl, Bool.true_and]
    have key : ∀ d fuel i, i + d = nmL q → d < fuel → (∀ j, j < i → B (s + j) = nmW q j) → lp (fun t => z_X3_isName_20 M 1 q t) fuel (nI i) = some (b2i ((List.range (nmL q)).all fun i => decide (B (s + i) = nmW q i))) := by
      intro d
      induction d with
      | zero =>
        intro fuel i hi hf h
        obtain ⟨fuel, rfl⟩ : ∃ m, fuel = m + 1 := ⟨fuel - 1, by omega⟩
        obtain rfl : i = nmL q := by omega
        refine lp_l ?_
        unfold z_X3_isName_20
        rw [n1, Option.bind_some, if_pos (Int32.le_refl _), show ((List.range (nmL q)).all fun i => decide (B (s + i) = nmW q i)) = true from List.all_eq_true.mpr (fun j hj => decide_eq_true (h j (List.mem_range.mp hj)))]
        rfl
      | succ d ih =>
        intro fuel i hi hf h
        obtain ⟨fuel, rfl⟩ : ∃ m, fuel = m + 1 := ⟨fuel - 1, by omega⟩
        have hb := (X.2 (s + i) (by omega)).2
        have hw := nm_b q hq i (by omega)
        have hz2 : (nI (B (s + i)) = nI (nmW q i)) = (B (s + i) = nmW q i) := nn_eq (by omega) (by omega)
        by_cases hc : B (s + i) = nmW q i
        · refine lp_r (t := nI (i + 1)) ?_ (ih fuel (i + 1) (by omega) (by omega) (fun j hj => ?_))
          · unfold z_X3_isName_20
            rw [n1, Option.bind_some, if_neg (fun e => by have := (nI_leI (by omega) (by omega)).mp e; omega), tbr L, Option.bind_some, tf L, Option.bind_some, g2, nI_add, tba L X hn (by omega), Option.bind_some, n2 i (by omega), Option.bind_some, if_pos (by rw [hz2]; exact hc), nI_1]
          · by_cases hj2 : j = i
            · rw [hj2]; exact hc
            · exact h j (by omega)
        · refine lp_l ?_
          unfold z_X3_isName_20
          rw [n1, Option.bind_some, if_neg (fun e => by have := (nI_leI (by omega) (by omega)).mp e; omega), tbr L, Option.bind_some, tf L, Option.bind_some, g2, nI_add, tba L X hn (by omega), Option.bind_some, n2 i (by omega), Option.bind_some, if_neg (by rw [hz2]; exact hc), show ((List.range (nmL q)).all fun i => decide (B (s + i) = nmW q i)) = false from Bool.eq_false_iff.mpr (fun e => hc (of_decide_eq_true (List.all_eq_true.mp e i (List.mem_range.mpr (by omega)))))]
          rfl
    exact key (nmL q) FU 0 (by omega) (show nmL q < 4000 by omega) (fun j hj => absurd hj (by omega))
  · rw [if_neg (by rw [hz]; exact h), decide_eq_false (by omega)]
    rfl
/-! the class's sorts -/
def csW (B : Nat → Nat) (s e : Nat) : Nat := if isNm B s e 0 = true then 5 else if isNm B s e 1 = true then 6 else if sgn B s e = true ∧ e ≤ s + 5 then 4 else 1
theorem c_letters {sp dr n s e : Nat} {B : Nat → Nat} {M : MM} (L : LAY M sp dr) (X : TX M B n) (hn : n ≤ 200) (hse : s < e) (he : e ≤ n) (hl : ∀ i, s ≤ i → i < e → kof (B i) = 1) (hs2 : e = n ∨ ¬ kof (B e) = 1) (g2 : gI M 1 2 = nI s) : f_X3_takeLetters (sI M 1 3 (nI s)) 1 = some (sI (sI M 1 3 (nI e)) 1 4 (nI (csW B s e))) := by
  unfold f_X3_takeLetters
  rw [if_pos (by rw [(L.s1 (p := 1) (j := 3) (v := nI s)).1]; decide)]
  have h := c_tl L X hn he hl hs2 (e - s) FU s (by omega) (show e - s < 4000 by omega) (Nat.le_refl _)
  rw [show b2i (sgn B s s) = 1 by simp [sgn, b2i]] at h
  rw [h]
  have L' := L.s1 (p := 1) (j := 3) (v := nI e)
  have X' := X.s1 (j := 3) (v := nI e) (by decide)
  have q2 : gI (sI M 1 3 (nI e)) 1 2 = nI s := by rw [g1_oth (by decide)]; exact g2
  have n0 := c_isName (q := 0) L' X' hn (Nat.le_of_lt hse) he q2 g1_same (by decide)
  have n1 := c_isName (q := 1) L' X' hn (Nat.le_of_lt hse) he q2 g1_same (by decide)
  unfold j_X3_takeLetters_66 csW
  rw [n0, Option.bind_some]
  cases h0 : isNm B s e 0 with
  | true =>
    rw [if_neg (by decide), wtf L', Option.bind_some, if_pos rfl]
    rfl
  | false =>
    rw [if_pos (show b2i false = 0 from rfl), n1, Option.bind_some, if_neg (show ¬ false = true by decide)]
    cases h1 : isNm B s e 1 with
    | true =>
      rw [if_neg (by decide), wtf L', Option.bind_some, if_pos rfl]
      rfl
    | false =>
      rw [if_pos (show b2i false = 0 from rfl), if_neg (show ¬ false = true by decide)]
      cases h2 : sgn B s e with
      | false =>
        rw [if_pos (show b2i false = 0 from rfl), wtf L', Option.bind_some, if_neg (fun e => absurd e.1 (by decide))]
        rfl
      | true =>
        rw [if_neg (by decide), tf L', Option.bind_some, tf L', Option.bind_some, g1_same, q2]
        have e5 : nI e - nI s = nI (e - s) := by
          have := nI_sub s (e - s)
          rw [show s + (e - s) = e by omega] at this
          exact this
        rw [e5]
        have c5 : ((5 : Int32) < nI (e - s)) = (5 < e - s) := nn_lt (a := 5) (by decide) (by omega)
        by_cases h5 : 5 < e - s
        · rw [if_pos (by rw [c5]; exact h5), wtf L', Option.bind_some, if_neg (fun e => by omega)]
          rfl
        · rw [if_neg (by rw [c5]; exact h5), wtf L', Option.bind_some, if_pos ⟨rfl, by omega⟩]
          rfl
