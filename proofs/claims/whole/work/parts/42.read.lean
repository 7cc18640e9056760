/-! PURE: what a text tells, and the class's reading of it -/
def sgT (B : Nat → Nat) (s e k : Nat) : Bool := decide (k = 1 ∧ sgn B s e = true ∧ e ≤ s + 5)
theorem sgT_c {B : Nat → Nat} {s e k : Nat} (hse : k = 1 → s < e) : csT B s e k = 4 ↔ sgT B s e k = true := by
  rw [csT_big (by decide)]
  unfold sgT
  rw [decide_eq_true_iff]
  constructor
  · rintro ⟨h1, h2⟩
    unfold csW at h2
    split at h2
    · cases h2
    · split at h2
      · cases h2
      · split at h2
        · rename_i h; exact ⟨h1, h⟩
        · cases h2
  · rintro ⟨h1, h2, h3⟩
    refine ⟨h1, ?_⟩
    have hb := sgn_all.mp h2 s (Nat.le_refl _) (hse h1)
    have n0 : ¬ isNm B s e 0 = true := by
      intro q
      unfold isNm at q
      have := of_decide_eq_true (List.all_eq_true.mp (Bool.and_eq_true_iff.mp q).2 0 (by decide))
      rw [Nat.add_zero] at this
      rw [this] at hb
      exact absurd hb (by decide)
    have n1 : ¬ isNm B s e 1 = true := by
      intro q
      unfold isNm at q
      have := of_decide_eq_true (List.all_eq_true.mp (Bool.and_eq_true_iff.mp q).2 0 (by decide))
      rw [Nat.add_zero] at this
      rw [this] at hb
      exact absurd hb (by decide)
    unfold csW
    rw [if_neg n0, if_neg n1, if_pos ⟨h2, h3⟩]
def addW (T : TG) (len : Nat) (sg : Nat → Nat) (kn ow ot : Nat) : TG := (tNw T + 1, tNs T, (fun w => if w = tNw T then len else tWl T w), (fun w i => if w = tNw T then sg i else tSg T w i), (fun w => if w = tNw T then kn else tKn T w), (fun w => if w = tNw T then ow else tOw T w), (fun w => if w = tNw T then ot else tOt T w), tSl T, tSk T)
def addS (T : TG) (len : Nat) (ks : Nat → Nat) : TG := (tNw T, tNs T + 1, tWl T, tSg T, tKn T, tOw T, tOt T, (fun s => if s = tNs T then len else tSl T s), (fun s i => if s = tNs T then ks i else tSk T s i))
noncomputable def pWord (B : Nat → Nat) (n : Nat) (T : TG) (p : Nat) : Nat ⊕ (TG × Nat) :=
  let a := tk B n p
  if sgT B a.1 a.2.1 a.2.2 = false then .inl a.1 else
  let b := tk B n a.2.1
  if fig B b.1 b.2.1 b.2.2 2 = false then .inl b.1 else
  let c := tk B n b.2.1
  if fig B c.1 c.2.1 c.2.2 9 = false then .inl c.1 else
  let d := tk B n c.2.1
  if fig B d.1 d.2.1 d.2.2 9 = false then .inl d.1 else
  let e := tk B n d.2.1
  if e.2.2 = 3 then .inr (addW T (a.2.1 - a.1) (fun i => B (a.1 + i) - 97) (B b.1 - 48) (B c.1 - 48) (B d.1 - 48), e.2.1) else .inl e.1
def ks3 (a b c : Nat) (i : Nat) : Nat := if i = 0 then a else if i = 1 then b else c
noncomputable def pShape (B : Nat → Nat) (n : Nat) (T : TG) (p : Nat) : Nat ⊕ (TG × Nat) :=
  let a := tk B n p
  if fig B a.1 a.2.1 a.2.2 2 = false then .inl a.1 else
  let b := tk B n a.2.1
  if fig B b.1 b.2.1 b.2.2 2 = false then (if b.2.2 = 3 then .inr (addS T 1 (ks3 (B a.1 - 48) 0 0), b.2.1) else .inl b.1) else
  let c := tk B n b.2.1
  if fig B c.1 c.2.1 c.2.2 2 = false then (if c.2.2 = 3 then .inr (addS T 2 (ks3 (B a.1 - 48) (B b.1 - 48) 0), c.2.1) else .inl c.1) else
  let d := tk B n c.2.1
  if d.2.2 = 3 then .inr (addS T 3 (ks3 (B a.1 - 48) (B b.1 - 48) (B c.1 - 48)), d.2.1) else .inl d.1
theorem PT.o {M M' : MM} (a : AgP M M' PT) {q j : Nat} (h : ¬ q = 1) : gI M' q j = gI M q j := a.2.2.2 q j (fun e => h e.1)
/-- signs of the draft's next word -/
theorem c_sg1 {sp dr n s wc wa L : Nat} {B : Nat → Nat} (hn : n ≤ 200) (hL : L ≤ 5) (hse : s + L ≤ n) (kc : kd wc = 5) (ka : kd wa = 8) (la : ln wa = 5) (hc : wc < 93) (hw : wa < 93) (h1 : ¬ wa = 1) (h2 : ¬ wa = 2) (h3 : ¬ wa = wc) (hB : ∀ i, i < L → 97 ≤ B (s + i)) : ∀ d fuel i M, i + d = L → d < fuel → LAY M sp dr → TX M B n → gI M 1 2 = nI s → gI M wc 1 = nI L → gR M wc 0 = some wa → (∀ j, j < i → gI M wa j = nI (B (s + j) - 97)) → ∃ M', lp (fun t => z_X4_readSigns_33 t.2 1 wc t.1) fuel (nI i, M) = some (1, M') ∧ AgP M M' (fun p _ => p = wa) ∧ ∀ j, j < L → gI M' wa j = nI (B (s + j) - 97) := by
  intro d
  induction d with
  | zero =>
    intro fuel i M hi hf LM X g2 gl gr h
    obtain ⟨fuel, rfl⟩ : ∃ m, fuel = m + 1 := ⟨fuel - 1, by omega⟩
    obtain rfl : i = L := by omega
    refine ⟨M, ?_, AgP.rf, h⟩
    refine lp_l ?_
    unfold z_X4_readSigns_33
    rw [fI_e LM.1 hc (by rw [kc]; rfl), Option.bind_some, gl, if_pos (Int32.le_refl _)]
  | succ d ih =>
    intro fuel i M hi hf LM X g2 gl gr h
    obtain ⟨fuel, rfl⟩ : ∃ m, fuel = m + 1 := ⟨fuel - 1, by omega⟩
    have a : AgP M (sI M wa i (nI (B (s + i) - 97))) (fun p _ => p = wa) := AgP.rf.sI rfl
    have o : ∀ q j, ¬ q = wa → gI (sI M wa i (nI (B (s + i) - 97))) q j = gI M q j := fun q j hq => a.2.2.2 q j hq
    obtain ⟨M', f, a', v⟩ := ih fuel (i + 1) (sI M wa i (nI (B (s + i) - 97))) (by omega) (by omega) (LM.agp a) (X.agp a (fun e => h1 e.symm) (fun _ e => h2 e.symm)) (by rw [o 1 2 (fun e => h1 e.symm)]; exact g2) (by rw [o wc 1 (fun e => h3 e.symm)]; exact gl) gr (fun j hj => by
      rw [gI_sI]
      by_cases hji : j = i
      · rw [if_pos ⟨rfl, hji⟩, hji]
      · rw [if_neg (fun e => hji e.2)]
        exact h j (by omega))
    refine ⟨M', ?_, a.tr a', v⟩
    refine lp_r ?_ f
    unfold z_X4_readSigns_33
    have hb := (X.2 (s + i) (by omega)).2
    have hb2 := hB i (by omega)
    have e97 : nI (B (s + i)) - 97 = nI (B (s + i) - 97) := by
      have := nI_sub 97 (B (s + i) - 97)
      rw [show 97 + (B (s + i) - 97) = B (s + i) by omega] at this
      exact this
    rw [fI_e LM.1 hc (by rw [kc]; rfl), Option.bind_some, gl, if_neg (fun e => by have := (nI_leI (by omega) (by omega)).mp e; omega), fR_e LM.1 hc (by rw [kc]; rfl), gr, Option.bind_some, tbr LM, Option.bind_some, tf LM, Option.bind_some, g2, nI_add, tba LM X hn (by omega), Option.bind_some, e97, waI_e LM.1 hw (by rw [ka]; rfl) (by omega), Option.bind_some, nI_1]
theorem c_signs {sp dr n p s e k wc wa : Nat} {B : Nat → Nat} {M : MM} (L : LAY M sp dr) (X : TX M B n) (hn : n ≤ 200) (hp : p ≤ n) (g3 : gI M 1 3 = nI p) (t : TOKN B n p s e k) (kc : kd wc = 5) (ka : kd wa = 8) (la : ln wa = 5) (hc : wc < 93) (hw : wa < 93) (h1 : ¬ wa = 1) (h2 : ¬ wa = 2) (h3 : ¬ wa = wc) (hc1 : ¬ wc = 1) (hc2 : ¬ wc = 2) (gr : gR M wc 0 = some wa) : ∃ M', f_X4_readSigns M 1 wc = some (b2i (sgT B s e k), M') ∧ AgP M M' (fun p j => PT p j ∨ p = wc ∨ p = wa) ∧ gI M' 1 2 = nI s ∧ gI M' 1 3 = nI e ∧ (sgT B s e k = true → gI M' wc 1 = nI (e - s) ∧ ∀ i, i < e - s → gI M' wa i = nI (B (s + i) - 97)) := by
  obtain ⟨M', f, a, v2, v3, v4, v5⟩ := c_adv L X hn hp g3 t
  have L' := L.agp a
  have X' := X.agp a (fun e => absurd e.2 (by decide)) (fun _ e => absurd e.1 (by decide))
  have hcs := csT_le (B := B) (s := s) (e := e) (k := k)
  have c4 : (nI (csT B s e k) = 4) = (csT B s e k = 4) := nn_eq (b := 4) (by omega) (by decide)
  have hse := tok_e t
  have hsg := sgT_c (B := B) (s := s) (e := e) (k := k) (fun h => (tok_lt t (by omega)).2.1)
  unfold f_X4_readSigns
  rw [f, Option.bind_some, if_pos a.1, tf L', Option.bind_some, v4]
  by_cases h4 : csT B s e k = 4
  · have hs := hsg.mp h4
    obtain ⟨k1, s2, s5⟩ := of_decide_eq_true hs
    rw [if_pos (by rw [c4]; exact h4), tf L', Option.bind_some, tf L', Option.bind_some, v2, v3]
    have e5 : nI e - nI s = nI (e - s) := by
      have := nI_sub s (e - s)
      rw [show s + (e - s) = e by omega] at this
      exact this
    have c5 : ¬ (5 : Int32) < nI (e - s) := fun q => by have := (nI_ltI (a := 5) (by decide) (by omega)).mp q; omega
    rw [e5, if_neg c5, wfI_e L'.1 hc (by rw [kc]; rfl), Option.bind_some]
    have a2 : AgP M' (sI M' wc 1 (nI (e - s))) (fun p _ => p = wc) := AgP.rf.sI rfl
    have hl : ∀ i, s ≤ i → i < e → kof (B i) = 1 := by
      rcases t.2.2.2 with ⟨-, -, h⟩ | ⟨_, _, _, _, _, h6, _⟩
      · omega
      · have := (h6 (Or.inl k1)).1
        rw [k1] at this
        exact this
    obtain ⟨M2, f2, a3, w⟩ := c_sg1 (sp := sp) (dr := dr) (n := n) (s := s) (L := e - s) (B := B) hn (by omega) (by omega) kc ka la hc hw h1 h2 h3 (fun i hi => (kof1.mp (hl (s + i) (by omega) (by omega))).1) (e - s) FU 0 (sI M' wc 1 (nI (e - s))) (by omega) (show e - s < 4000 by omega) (L'.agp a2) (X'.agp a2 (fun e => hc1 e.symm) (fun _ e => hc2 e.symm)) (by rw [a2.2.2.2 1 2 (fun e => hc1 e.symm)]; exact v2) (by rw [gI_sI, if_pos ⟨rfl, rfl⟩]) (by rw [a2.2.1, a.2.1]; exact gr) (fun j hj => absurd hj (by omega))
    rw [n00] at f2
    refine ⟨M2, by rw [f2, hs]; rfl, ((a.mono (fun _ _ h => Or.inl h)).tr (a2.mono (fun _ _ h => Or.inr (Or.inl h)))).tr (a3.mono (fun _ _ h => Or.inr (Or.inr h))), ?_, ?_, fun _ => ⟨?_, w⟩⟩
    · rw [a3.2.2.2 1 2 (fun e => h1 e.symm), a2.2.2.2 1 2 (fun e => hc1 e.symm)]; exact v2
    · rw [a3.2.2.2 1 3 (fun e => h1 e.symm), a2.2.2.2 1 3 (fun e => hc1 e.symm)]; exact v3
    · rw [a3.2.2.2 wc 1 (fun e => h3 e.symm), gI_sI, if_pos ⟨rfl, rfl⟩]
  · have hs : sgT B s e k = false := Bool.eq_false_iff.mpr (fun q => h4 (hsg.mpr q))
    rw [if_neg (by rw [c4]; exact h4), hs]
    exact ⟨M', rfl, a.mono (fun _ _ h => Or.inl h), v2, v3, fun h => by cases h⟩
def PC (dr p j : Nat) : Prop := (p = 1 ∧ 2 ≤ j) ∨ (dr ≤ p ∧ p < dr + 29)
theorem LAY.dr {M : MM} {sp dr : Nat} (L : LAY M sp dr) : dr = 23 ∨ dr = 52 := by rcases L.2.1 with ⟨-, h⟩ | ⟨-, h⟩ <;> omega
def rdW (dr n : Nat) (M : MM) (o : Option (Int32 × MM)) : Nat ⊕ (TG × Nat) → Prop
  | .inl s => ∃ M', o = some (0, M') ∧ AgP M M' (PC dr) ∧ gI M' 1 2 = nI s
  | .inr (T', e) => ∃ M', o = some (1, M') ∧ AgP M M' (PC dr) ∧ gI M' 1 3 = nI e ∧ e ≤ n ∧ CTg M' dr T'
theorem c_readWord {sp dr n p : Nat} {B : Nat → Nat} {M : MM} {T : TG} (L : LAY M sp dr) (X : TX M B n) (hn : n ≤ 200) (hp : p ≤ n) (g3 : gI M 1 3 = nI p) (hC : CTg M dr T) (hw : tNw T < 9) (hs : tNs T ≤ 4) : rdW dr n M (f_X4_readWord M dr 1) (pWord B n T p) := by
  obtain ⟨ks0, ks1, ks2, ks3, ks4, ks5, ks6, ks7, ks8⟩ := tkf L.dr
  obtain ⟨lt0, lt1, lt2, lt3⟩ := ly_t L dr L.dr
  obtain ⟨kc, ka, la⟩ := ks6 (tNw T) hw
  obtain ⟨gw, gr⟩ := lt2 (tNw T) hw
  have hdr := L.dr
  generalize hwc : dr + 3 + 2 * tNw T = wc at kc gw gr
  generalize hwa : dr + 4 + 2 * tNw T = wa at ka la gr
  have hc : wc < 93 := by omega
  have ha : wa < 93 := by omega
  have c9 : nI (tNw T) < 9 := (nI_ltI (b := 9) (by omega) (by decide)).mpr hw
  have kdr : (kd dr == 4) = true := by rw [ks1]; rfl
  have b1 : ¬ b2i true = 0 := by decide
  unfold f_X4_readWord
  rw [if_pos ⟨by rw [L.1]; omega, ks1⟩, fI_e L.1 ks8 kdr, Option.bind_some, hC.1, if_pos c9, fR_e L.1 ks8 kdr, lt0, Option.bind_some, Option.bind_some, aR_e L.1 (by omega) (by rw [ks2]; rfl) (by rw [ks3]; exact hw), gw, Option.bind_some]
  unfold pWord
  have t1 := tk_s (B := B) (n := n) hp
  generalize tk B n p = q1 at t1
  obtain ⟨s1, e1, k1⟩ := q1
  dsimp only at t1 ⊢
  have he1 := (tok_e t1).2
  obtain ⟨M1, f1, a1, v1, w1, x1⟩ := c_signs L X hn hp g3 t1 kc ka la hc ha (by omega) (by omega) (by omega) (by omega) (by omega) gr
  have A1 : AgP M M1 (PC dr) := a1.mono (fun p j h => by
    rcases h with h | h | h
    · exact Or.inl h
    · exact Or.inr (by omega)
    · exact Or.inr (by omega))
  rw [f1, Option.bind_some, if_pos a1.1]
  cases hg1 : sgT B s1 e1 k1 with
  | false =>
    rw [if_pos rfl]
    exact ⟨M1, by rw [if_pos (show (b2i false, M1).1 = 0 from rfl)], A1, v1⟩
  | true =>
    rw [if_neg (show ¬ (b2i true, M1).1 = 0 from b1), if_neg (show ¬ true = false by decide)]
    obtain ⟨y1, y2⟩ := x1 hg1
    have L1 := L.agp A1
    have X1 := X.agp A1 (fun h => by unfold PC at h; omega) (fun j h => by unfold PC at h; omega)
    have t2 := tk_s (B := B) (n := n) he1
    generalize tk B n e1 = q2 at t2
    obtain ⟨s2, e2, k2⟩ := q2
    dsimp only at t2 ⊢
    have he2 := (tok_e t2).2
    obtain ⟨M2, f2, a2, v2, w2, -, x2⟩ := c_num (m := 2) L1 X1 hn he1 w1 t2 (by decide)
    have A2 : AgP M M2 (PC dr) := A1.tr (a2.mono (fun _ _ h => Or.inl h))
    rw [show (2 : Int32) = nI 2 from rfl, f2, Option.bind_some, if_pos a2.1]
    cases hg2 : fig B s2 e2 k2 2 with
    | false =>
      rw [if_pos rfl]
      exact ⟨M2, by rw [if_pos (show (b2i false, M2).1 = 0 from rfl)], A2, v2⟩
    | true =>
      rw [if_neg (show ¬ (b2i true, M2).1 = 0 from b1), if_neg (show ¬ true = false by decide)]
      have L2 := L1.agp a2
      rw [tf L2, Option.bind_some, x2 hg2, wfI_e L2.1 hc (by rw [kc]; rfl), Option.bind_some]
      have b3 : AgP M2 (sI M2 wc 2 (nI (B s2 - 48))) (fun p _ => p = wc) := AgP.rf.sI rfl
      generalize hM3 : sI M2 wc 2 (nI (B s2 - 48)) = M3 at b3
      have y3 : gI M3 wc 2 = nI (B s2 - 48) := by rw [← hM3, gI_sI, if_pos ⟨rfl, rfl⟩]
      have z3 : ∀ j, ¬ j = 2 → gI M3 wc j = gI M2 wc j := fun j hj => by rw [← hM3, gI_sI, if_neg (fun e => hj e.2)]
      have A3 : AgP M M3 (PC dr) := A2.tr (b3.mono (fun p j h => Or.inr (by omega)))
      have L3 := L2.agp b3
      have X3 := X.agp A3 (fun h => by unfold PC at h; omega) (fun j h => by unfold PC at h; omega)
      have w3 : gI M3 1 3 = nI e2 := by rw [b3.2.2.2 1 3 (by omega)]; exact w2
      have t4 := tk_s (B := B) (n := n) he2
      generalize tk B n e2 = q4 at t4
      obtain ⟨s4, e4, k4⟩ := q4
      dsimp only at t4 ⊢
      have he4 := (tok_e t4).2
      obtain ⟨M4, f4, a4, v4, w4, -, x4⟩ := c_num (m := 9) L3 X3 hn he2 w3 t4 (by decide)
      have A4 : AgP M M4 (PC dr) := A3.tr (a4.mono (fun _ _ h => Or.inl h))
      rw [show (9 : Int32) = nI 9 from rfl, f4, Option.bind_some, if_pos a4.1]
      cases hg4 : fig B s4 e4 k4 9 with
      | false =>
        rw [if_pos rfl]
        exact ⟨M4, by rw [if_pos (show (b2i false, M4).1 = 0 from rfl)], A4, v4⟩
      | true =>
        rw [if_neg (show ¬ (b2i true, M4).1 = 0 from b1), if_neg (show ¬ true = false by decide)]
        have L4 := L3.agp a4
        rw [tf L4, Option.bind_some, x4 hg4, wfI_e L4.1 hc (by rw [kc]; rfl), Option.bind_some]
        have b5 : AgP M4 (sI M4 wc 3 (nI (B s4 - 48))) (fun p _ => p = wc) := AgP.rf.sI rfl
        generalize hM5 : sI M4 wc 3 (nI (B s4 - 48)) = M5 at b5
        have y5 : gI M5 wc 3 = nI (B s4 - 48) := by rw [← hM5, gI_sI, if_pos ⟨rfl, rfl⟩]
        have z5 : ∀ j, ¬ j = 3 → gI M5 wc j = gI M4 wc j := fun j hj => by rw [← hM5, gI_sI, if_neg (fun e => hj e.2)]
        have A5 : AgP M M5 (PC dr) := A4.tr (b5.mono (fun p j h => Or.inr (by omega)))
        have L5 := L4.agp b5
        have X5 := X.agp A5 (fun h => by unfold PC at h; omega) (fun j h => by unfold PC at h; omega)
        have w5 : gI M5 1 3 = nI e4 := by rw [b5.2.2.2 1 3 (by omega)]; exact w4
        have t6 := tk_s (B := B) (n := n) he4
        generalize tk B n e4 = q6 at t6
        obtain ⟨s6, e6, k6⟩ := q6
        dsimp only at t6 ⊢
        have he6 := (tok_e t6).2
        obtain ⟨M6, f6, a6, v6, w6, -, x6⟩ := c_num (m := 9) L5 X5 hn he4 w5 t6 (by decide)
        have A6 : AgP M M6 (PC dr) := A5.tr (a6.mono (fun _ _ h => Or.inl h))
        rw [f6, Option.bind_some, if_pos a6.1]
        cases hg6 : fig B s6 e6 k6 9 with
        | false =>
          rw [if_pos rfl]
          exact ⟨M6, by rw [if_pos (show (b2i false, M6).1 = 0 from rfl)], A6, v6⟩
        | true =>
          rw [if_neg (show ¬ (b2i true, M6).1 = 0 from b1), if_neg (show ¬ true = false by decide)]
          have L6 := L5.agp a6
          rw [tf L6, Option.bind_some, x6 hg6, wfI_e L6.1 hc (by rw [kc]; rfl), Option.bind_some]
          have b7 : AgP M6 (sI M6 wc 4 (nI (B s6 - 48))) (fun p _ => p = wc) := AgP.rf.sI rfl
          generalize hM7 : sI M6 wc 4 (nI (B s6 - 48)) = M7 at b7
          have y7 : gI M7 wc 4 = nI (B s6 - 48) := by rw [← hM7, gI_sI, if_pos ⟨rfl, rfl⟩]
          have z7 : ∀ j, ¬ j = 4 → gI M7 wc j = gI M6 wc j := fun j hj => by rw [← hM7, gI_sI, if_neg (fun e => hj e.2)]
          have A7 : AgP M M7 (PC dr) := A6.tr (b7.mono (fun p j h => Or.inr (by omega)))
          have L7 := L6.agp b7
          have keep : ∀ q j, ¬ q = 1 → ¬ q = wc → gI M7 q j = gI M1 q j := by
            intro q j h1 h2
            rw [b7.2.2.2 q j h2, PT.o a6 h1, b5.2.2.2 q j h2, PT.o a4 h1, b3.2.2.2 q j h2, PT.o a2 h1]
          have old : ∀ q j, ¬ q = 1 → ¬ q = wc → ¬ q = wa → gI M7 q j = gI M q j := by
            intro q j h1 h2 h3
            rw [keep q j h1 h2, a1.2.2.2 q j (fun h => by
              rcases h with h | h | h
              · exact h1 h.1
              · exact h2 h
              · exact h3 h)]
          rw [fI_e L7.1 ks8 kdr, Option.bind_some, old dr 2 (by omega) (by omega) (by omega), hC.1, nI_1, wfI_e L7.1 ks8 kdr, Option.bind_some]
          have b8 : AgP M7 (sI M7 dr 2 (nI (tNw T + 1))) (fun p j => p = dr ∧ j = 2) := AgP.rf.sI ⟨rfl, rfl⟩
          generalize hM8 : sI M7 dr 2 (nI (tNw T + 1)) = M8 at b8
          have y8 : gI M8 dr 2 = nI (tNw T + 1) := by rw [← hM8, gI_sI, if_pos ⟨rfl, rfl⟩]
          have A8 : AgP M M8 (PC dr) := A7.tr (b8.mono (fun p j h => Or.inr (by omega)))
          have L8 := L7.agp b8
          have X8 := X.agp A8 (fun h => by unfold PC at h; omega) (fun j h => by unfold PC at h; omega)
          have w8 : gI M8 1 3 = nI e6 := by rw [b8.2.2.2 1 3 (by omega), b7.2.2.2 1 3 (by omega)]; exact w6
          have t9 := tk_s (B := B) (n := n) he6
          generalize tk B n e6 = q9 at t9
          obtain ⟨s9, e9, k9⟩ := q9
          dsimp only at t9 ⊢
          have he9 := (tok_e t9).2
          obtain ⟨M9, f9, a9, v9, w9⟩ := c_end L8 X8 hn he6 w8 t9
          have A9 : AgP M M9 (PC dr) := A8.tr (a9.mono (fun _ _ h => Or.inl h))
          rw [f9, Option.bind_some, if_pos a9.1, if_pos b2i_0]
          by_cases h9 : k9 = 3
          · rw [if_pos h9, decide_eq_true h9]
            refine ⟨M9, rfl, A9, w9, he9, ?_⟩
            have n9 : ∀ q j, ¬ q = 1 → ¬ (q = dr ∧ j = 2) → gI M9 q j = gI M7 q j := fun q j h1 h2 => by rw [PT.o a9 h1, b8.2.2.2 q j h2]
            refine ⟨?_, ?_, fun w hw2 => ?_, fun s hs2 => ?_⟩
            · rw [PT.o a9 (by omega), y8]
              rfl
            · rw [n9 dr 3 (by omega) (by omega), old dr 3 (by omega) (by omega) (by omega)]
              exact hC.2.1
            · by_cases hwe : w = tNw T
              · subst hwe
                rw [hwc, hwa]
                have hlen := (tok_e t1).1
                have sgt := of_decide_eq_true hg1
                have yy2 : gI M7 wc 2 = nI (B s2 - 48) := by rw [z7 2 (by decide), PT.o a6 (by omega), z5 2 (by decide), PT.o a4 (by omega), y3]
                have yy3 : gI M7 wc 3 = nI (B s4 - 48) := by rw [z7 3 (by decide), PT.o a6 (by omega), y5]
                have yy1 : gI M7 wc 1 = nI (e1 - s1) := by rw [z7 1 (by decide), PT.o a6 (by omega), z5 1 (by decide), PT.o a4 (by omega), z3 1 (by decide), PT.o a2 (by omega), y1]
                have e1' : tWl (addW T (e1 - s1) (fun i => B (s1 + i) - 97) (B s2 - 48) (B s4 - 48) (B s6 - 48)) (tNw T) = e1 - s1 := if_pos rfl
                have e2' : tKn (addW T (e1 - s1) (fun i => B (s1 + i) - 97) (B s2 - 48) (B s4 - 48) (B s6 - 48)) (tNw T) = B s2 - 48 := if_pos rfl
                have e3' : tOw (addW T (e1 - s1) (fun i => B (s1 + i) - 97) (B s2 - 48) (B s4 - 48) (B s6 - 48)) (tNw T) = B s4 - 48 := if_pos rfl
                have e4' : tOt (addW T (e1 - s1) (fun i => B (s1 + i) - 97) (B s2 - 48) (B s4 - 48) (B s6 - 48)) (tNw T) = B s6 - 48 := if_pos rfl
                have e5' : ∀ i, tSg (addW T (e1 - s1) (fun i => B (s1 + i) - 97) (B s2 - 48) (B s4 - 48) (B s6 - 48)) (tNw T) i = B (s1 + i) - 97 := fun i => if_pos rfl
                rw [e1', e2', e3', e4', n9 wc 1 (by omega) (by omega), n9 wc 2 (by omega) (by omega), n9 wc 3 (by omega) (by omega), n9 wc 4 (by omega) (by omega)]
                refine ⟨yy1, yy2, yy3, y7, fun i hi => ?_⟩
                rw [e5', n9 wa i (by omega) (by omega), keep wa i (by omega) (by omega)]
                exact y2 i hi
              · have hw3 : w < tNw T := by
                  have : w < tNw T + 1 := hw2
                  omega
                obtain ⟨o1, o2, o3, o4, o5⟩ := hC.2.2.1 w hw3
                have e1' : tWl (addW T (e1 - s1) (fun i => B (s1 + i) - 97) (B s2 - 48) (B s4 - 48) (B s6 - 48)) w = tWl T w := if_neg hwe
                have e2' : tKn (addW T (e1 - s1) (fun i => B (s1 + i) - 97) (B s2 - 48) (B s4 - 48) (B s6 - 48)) w = tKn T w := if_neg hwe
                have e3' : tOw (addW T (e1 - s1) (fun i => B (s1 + i) - 97) (B s2 - 48) (B s4 - 48) (B s6 - 48)) w = tOw T w := if_neg hwe
                have e4' : tOt (addW T (e1 - s1) (fun i => B (s1 + i) - 97) (B s2 - 48) (B s4 - 48) (B s6 - 48)) w = tOt T w := if_neg hwe
                have e5' : ∀ i, tSg (addW T (e1 - s1) (fun i => B (s1 + i) - 97) (B s2 - 48) (B s4 - 48) (B s6 - 48)) w i = tSg T w i := fun i => if_neg hwe
                have nn : ∀ j, gI M9 (dr + 3 + 2 * w) j = gI M (dr + 3 + 2 * w) j := fun j => by rw [n9 _ j (by omega) (by omega), old _ j (by omega) (by omega) (by omega)]
                have nn2 : ∀ j, gI M9 (dr + 4 + 2 * w) j = gI M (dr + 4 + 2 * w) j := fun j => by rw [n9 _ j (by omega) (by omega), old _ j (by omega) (by omega) (by omega)]
                rw [e1', e2', e3', e4', nn, nn, nn, nn]
                refine ⟨o1, o2, o3, o4, fun i hi => ?_⟩
                rw [e5', nn2]
                exact o5 i hi
            · have hs3 : s < tNs T := hs2
              have nn : ∀ j, gI M9 (dr + 21 + 2 * s) j = gI M (dr + 21 + 2 * s) j := fun j => by rw [n9 _ j (by omega) (by omega), old _ j (by omega) (by omega) (by omega)]
              have nn2 : ∀ j, gI M9 (dr + 22 + 2 * s) j = gI M (dr + 22 + 2 * s) j := fun j => by rw [n9 _ j (by omega) (by omega), old _ j (by omega) (by omega) (by omega)]
              have := hC.2.2.2 s hs3
              rw [nn]
              refine ⟨this.1, fun i hi => ?_⟩
              rw [nn2]
              exact this.2 i hi
          · rw [if_neg h9, decide_eq_false h9]
            exact ⟨M9, rfl, A9, v9⟩
