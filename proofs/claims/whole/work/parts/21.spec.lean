/-! PURE: a tongue, and what can be said in it -/
abbrev TG : Type := Nat × Nat × (Nat → Nat) × (Nat → Nat → Nat) × (Nat → Nat) × (Nat → Nat) × (Nat → Nat) × (Nat → Nat) × (Nat → Nat → Nat)
def tNw (T : TG) : Nat := T.1
def tNs (T : TG) : Nat := T.2.1
def tWl (T : TG) : Nat → Nat := T.2.2.1
def tSg (T : TG) : Nat → Nat → Nat := T.2.2.2.1
def tKn (T : TG) : Nat → Nat := T.2.2.2.2.1
def tOw (T : TG) : Nat → Nat := T.2.2.2.2.2.1
def tOt (T : TG) : Nat → Nat := T.2.2.2.2.2.2.1
def tSl (T : TG) : Nat → Nat := T.2.2.2.2.2.2.2.1
def tSk (T : TG) : Nat → Nat → Nat := T.2.2.2.2.2.2.2.2
def TOK (T : TG) : Prop := tNw T ≤ 9 ∧ tNs T ≤ 4 ∧ (∀ w, w < tNw T → 1 ≤ tWl T w ∧ tWl T w ≤ 5 ∧ (∀ i, i < tWl T w → tSg T w i < 8) ∧ tKn T w < 3 ∧ tOw T w ≤ 9 ∧ tOt T w ≤ 9) ∧ ∀ s, s < tNs T → 1 ≤ tSl T s ∧ tSl T s ≤ 3 ∧ ∀ i, i < tSl T s → tSk T s i < 3
/-- the figures of a number below 1000 -/
def dg (l : Nat) : List Nat := if l < 10 then [l] else if l < 100 then [l / 10, l % 10] else [l / 100, l / 10 % 10, l % 10]
def isRow (T : TG) (l : Nat) : Bool := (dg l).all fun d => decide (1 ≤ d ∧ d ≤ tNw T)
def kinds (T : TG) (l : Nat) : List Nat := (dg l).map fun d => tKn T (d - 1)
def shK (T : TG) (s : Nat) : List Nat := (List.range (tSl T s)).map (tSk T s)
def isL (T : TG) (l : Nat) : Bool := isRow T l && (List.range (tNs T)).any fun s => decide (shK T s = kinds T l)
def ownL (T : TG) (l : Nat) : Nat := ((dg l).map fun d => tOw T (d - 1)).sum
def othL (T : TG) (l : Nat) : Nat := ((dg l).map fun d => tOt T (d - 1)).sum
def lenL (T : TG) (l : Nat) : Nat := ((dg l).map fun d => tWl T (d - 1)).sum
/-- how often a word has a sign -/
def cw (T : TG) (w s : Nat) : Nat := ((List.range (tWl T w)).map (tSg T w)).count s
def cn (T : TG) (l s : Nat) : Nat := ((dg l).map fun d => cw T (d - 1) s).sum
theorem Lt_ex (T : TG) : ∃ l : List Nat, l = (List.range 1000).filter (isL T) := ⟨_, rfl⟩
noncomputable def Lt (T : TG) : List Nat := Classical.choose (Lt_ex T)
theorem Lt_eq {T : TG} : Lt T = (List.range 1000).filter (isL T) := Classical.choose_spec (Lt_ex T)
/-- the counts packed: c bits for each sign -/
def pk (c : Nat) (f : Nat → Nat) : Nat := f 0 + f 1 * 2 ^ c + f 2 * 2 ^ (2 * c) + f 3 * 2 ^ (3 * c) + f 4 * 2 ^ (4 * c) + f 5 * 2 ^ (5 * c) + f 6 * 2 ^ (6 * c) + f 7 * 2 ^ (7 * c)
/-- the set of the signs -/
def stL (T : TG) (l : Nat) : Nat := pk 1 fun s => if 0 < cn T l s then 1 else 0
/-- the kinds of a row as one number -/
def rowN (ks : List Nat) : Nat := ks.foldl (fun r k => r * 4 + k + 1) 0
theorem dg_lt {l : Nat} (h : l < 1000) : ∀ d ∈ dg l, d < 10 := by
  intro d hd
  unfold dg at hd
  split at hd
  · simp at hd; omega
  · split at hd
    · simp at hd; omega
    · simp at hd; omega
theorem dg_one {l : Nat} (h : l < 10) : dg l = [l] := by simp [dg, h]
theorem dg_more {l : Nat} (h : 10 ≤ l) (h2 : l < 1000) : dg l = dg (l / 10) ++ [l % 10] := by
  unfold dg
  by_cases h1 : l < 100
  · rw [if_neg (by omega), if_pos h1, if_pos (by omega)]
    rfl
  · rw [if_neg (by omega), if_neg h1, if_neg (by omega), if_pos (by omega)]
    have : l / 10 / 10 = l / 100 := by omega
    rw [this]
    rfl
theorem dg_len {l : Nat} : (dg l).length ≤ 3 := by
  unfold dg
  split
  · simp
  · split <;> simp
theorem isL_row {T : TG} {l : Nat} (h : isL T l = true) : isRow T l = true := by
  unfold isL at h
  simp only [Bool.and_eq_true] at h
  exact h.1
theorem not_row0 {T : TG} : isRow T 0 = false := by simp [isRow, dg]
theorem not_L0 {T : TG} : isL T 0 = false := by simp [isL, not_row0]
theorem sum_le {l : List Nat} {f : Nat → Nat} {c : Nat} (h : ∀ d ∈ l, f d ≤ c) : (l.map f).sum ≤ l.length * c := by
  induction l with
  | nil => simp
  | cons a l ih =>
    have h1 := h a (by simp)
    have h2 := ih (fun d hd => h d (by simp [hd]))
    simp only [List.map_cons, List.sum_cons, List.length_cons]
    rw [Nat.add_mul]
    omega
theorem row_dig {T : TG} {l d : Nat} (h : isRow T l = true) (hd : d ∈ dg l) : 1 ≤ d ∧ d ≤ tNw T := by
  have := List.all_eq_true.mp h d hd
  simpa using this
theorem sum3_le {T : TG} {l c : Nat} {f : Nat → Nat} (h : isRow T l = true) (hf : ∀ w, w < tNw T → f w ≤ c) : ((dg l).map fun d => f (d - 1)).sum ≤ 3 * c := by
  have h1 := sum_le (l := dg l) (f := fun d => f (d - 1)) (c := c) (fun d hd => hf (d - 1) (by have := row_dig h hd; omega))
  have h2 := dg_len (l := l)
  have : (dg l).length * c ≤ 3 * c := Nat.mul_le_mul_right c h2
  omega
theorem ownL_le {T : TG} {l : Nat} (hT : TOK T) (h : isRow T l = true) : ownL T l ≤ 27 := sum3_le (c := 9) h (fun w hw => (hT.2.2.1 w hw).2.2.2.2.1)
theorem othL_le {T : TG} {l : Nat} (hT : TOK T) (h : isRow T l = true) : othL T l ≤ 27 := sum3_le (c := 9) h (fun w hw => (hT.2.2.1 w hw).2.2.2.2.2)
theorem lenL_le {T : TG} {l : Nat} (hT : TOK T) (h : isRow T l = true) : lenL T l ≤ 15 := sum3_le (c := 5) h (fun w hw => (hT.2.2.1 w hw).2.1)
theorem cn_le {T : TG} {l s : Nat} (hT : TOK T) (h : isRow T l = true) : cn T l s ≤ 15 := sum3_le (c := 5) (f := fun w => cw T w s) h (fun w hw => by
  have := List.count_le_length (a := s) (l := (List.range (tWl T w)).map (tSg T w))
  simp only [List.length_map, List.length_range] at this
  have := (hT.2.2.1 w hw).2.1
  show cw T w s ≤ 5
  unfold cw
  omega)
theorem Lt_mem {T : TG} {l : Nat} : l ∈ Lt T ↔ l < 1000 ∧ isL T l = true := by simp [Lt_eq]
theorem Lt_len {T : TG} : (Lt T).length ≤ 1000 := by
  have := List.length_filter_le (isL T) (List.range 1000)
  simpa [Lt_eq] using this
/-- letters below a number -/
def LB (T : TG) (i : Nat) : List Nat := (List.range i).filter (isL T)
theorem LB_zero {T : TG} : LB T 0 = [] := rfl
theorem LB_one {T : TG} : LB T 1 = [] := by simp [LB, not_L0, List.range_succ]
theorem LB_yes {T : TG} {i : Nat} (h : isL T i = true) : LB T (i + 1) = LB T i ++ [i] := by simp [LB, List.range_succ, List.filter_append, h]
theorem LB_no {T : TG} {i : Nat} (h : isL T i = false) : LB T (i + 1) = LB T i := by simp [LB, List.range_succ, List.filter_append, h]
theorem LB_all {T : TG} : LB T 1000 = Lt T := Lt_eq.symm
theorem take_next {α : Type} {l : List α} {k : Nat} (h : k < l.length) : l.take (k + 1) = l.take k ++ [l[k]] := by simp
/-! the invariant: what stands in the memory between two calls -/
def b2i (b : Bool) : Int32 := if b then 1 else 0
/-- the tongue of the class at t -/
def CTg (M : MM) (t : Nat) (T : TG) : Prop := gI M t 2 = nI (tNw T) ∧ gI M t 3 = nI (tNs T) ∧ (∀ w, w < tNw T → gI M (t + 3 + 2 * w) 1 = nI (tWl T w) ∧ gI M (t + 3 + 2 * w) 2 = nI (tKn T w) ∧ gI M (t + 3 + 2 * w) 3 = nI (tOw T w) ∧ gI M (t + 3 + 2 * w) 4 = nI (tOt T w) ∧ ∀ i, i < tWl T w → gI M (t + 4 + 2 * w) i = nI (tSg T w i)) ∧ ∀ s, s < tNs T → gI M (t + 21 + 2 * s) 1 = nI (tSl T s) ∧ ∀ i, i < tSl T s → gI M (t + 22 + 2 * s) i = nI (tSk T s i)
/-- the tongue of the reference in the row p (83 told, 84 draft) -/
def MTg (M : MM) (p : Nat) (T : TG) : Prop := gI M p 0 = nI (tNw T) ∧ gI M p 1 = nI (tNs T) ∧ (∀ w, w < tNw T → gI M p (3 + w) = nI (tKn T w) ∧ gI M p (12 + w) = nI (tOw T w) ∧ gI M p (21 + w) = nI (tOt T w) ∧ gI M p (30 + w) = nI (tWl T w) ∧ ∀ i, i < tWl T w → gI M p (39 + 5 * w + i) = nI (tSg T w i)) ∧ ∀ s, s < tNs T → gI M p (84 + s) = nI (tSl T s) ∧ ∀ i, i < tSl T s → gI M p (88 + 3 * s + i) = nI (tSk T s i)
/-- the best answer of a letter without slack: 0 none -/
def sameC (T : TG) (l m : Nat) : Bool := (List.range 8).all fun s => decide (cn T l s = cn T m s)
def ans0 (T : TG) (l m : Nat) : Bool := decide (m ≠ l) && sameC T l m
/-- the first of the most own -/
def pick (T : TG) (p : Nat → Bool) (l : List Nat) : Nat := l.foldl (fun b m => if p m = true ∧ (b = 0 ∨ ownL T b < ownL T m) then m else b) 0
noncomputable def best0 (T : TG) (l : Nat) : Nat := pick T (ans0 T l) (Lt T)
/-- the tables of the class -/
def SAY (M : MM) (T : TG) : Prop := gI M 3 9 = nI (Lt T).length ∧ (∀ l, l < 1000 → gI M 4 l = b2i (isL T l)) ∧ (∀ l, l < 1000 → isRow T l = true → gI M 5 l = nI (rowN (kinds T l)) ∧ gI M 6 l = nI (ownL T l) ∧ gI M 7 l = nI (othL T l) ∧ gI M 8 l = nI (lenL T l) ∧ gJ M 9 l = lN (pk 8 (cn T l)) ∧ gI M 10 l = nI (stL T l)) ∧ (∀ l, l < 1000 → isL T l = true → gI M 11 l = nI (best0 T l)) ∧ (∀ s, s < 256 → gI M 12 s = nI ((Lt T).filter fun l => decide (stL T l = s)).length) ∧ gI M 5 0 = 0 ∧ gI M 6 0 = 0 ∧ gI M 7 0 = 0 ∧ gI M 8 0 = 0 ∧ gI M 10 0 = 0 ∧ gJ M 9 0 = 0
/-- the lists of the reference -/
def LST (M : MM) (T : TG) : Prop := gI M 81 12 = nI (Lt T).length ∧ ∀ k (h : k < (Lt T).length), gI M 88 k = nI (Lt T)[k] ∧ gI M 89 k = nI (pk 4 (cn T (Lt T)[k])) ∧ gI M 90 k = nI (ownL T (Lt T)[k]) ∧ gI M 91 k = nI (othL T (Lt T)[k])
def TXT (M : MM) : Prop := ∃ n, n ≤ 200 ∧ gI M 1 1 = nI n ∧ gI M 81 2 = nI n ∧ ∀ i, i < n → gI M 82 i = gI M 2 i ∧ ∃ b, b < 256 ∧ gI M 2 i = nI b
/-- rows of letters at a (class; from 0) and at m (reference; from o) -/
def RWS (M : MM) (T : TG) (a m o k : Nat) : Prop := ∀ i, i < k → gI M m (o + i) = gI M a i ∧ ∃ l, l < 1000 ∧ isL T l = true ∧ gI M a i = nI l
def PST (M : MM) (T : TG) : Prop := ∃ k, k ≤ 12 ∧ gI M 16 1 = nI k ∧ gI M 85 0 = nI k ∧ RWS M T 17 85 1 k
def IMG (M : MM) (T : TG) (j : Nat) : Prop := gI M 87 j = gI M (19 + 2 * j) 2 ∧ (gI M 87 j = 0 ∨ (gI M 87 j = 1 ∧ ∃ k, k ≤ 12 ∧ gI M (19 + 2 * j) 1 = nI k ∧ gI M 86 (13 * j) = nI k ∧ RWS M T (20 + 2 * j) 86 (13 * j + 1) k))
def Inv (M : MM) (T : TG) (sp dr : Nat) : Prop := LAY M sp dr ∧ TOK T ∧ CTg M sp T ∧ MTg M 83 T ∧ SAY M T ∧ LST M T ∧ TXT M ∧ PST M T ∧ IMG M T 0 ∧ IMG M T 1 ∧ gJ M 0 6 = gJ M 81 0
/-- what is kept when only the cells of S are written -/
def Ag (M M' : MM) (S : List Nat) : Prop := M'.1 = M.1 ∧ (∀ p j, gR M' p j = gR M p j) ∧ (∀ p, p ∉ S → ∀ j, gI M' p j = gI M p j) ∧ ∀ p, p ∉ S → ∀ j, gJ M' p j = gJ M p j
theorem Ag.rf {M : MM} {S : List Nat} : Ag M M S := ⟨rfl, fun _ _ => rfl, fun _ _ _ => rfl, fun _ _ _ => rfl⟩
theorem Ag.sI {M M' : MM} {S : List Nat} {p j : Nat} {v : Int32} (h : Ag M M' S) (hp : p ∈ S) : Ag M (sI M' p j v) S := by
  refine ⟨h.1, h.2.1, fun q hq k => ?_, h.2.2.2⟩
  rw [gI_sI, if_neg (show ¬ (q = p ∧ k = j) from fun e => hq (e.1 ▸ hp))]
  exact h.2.2.1 q hq k
theorem Ag.sJ {M M' : MM} {S : List Nat} {p j : Nat} {v : Int64} (h : Ag M M' S) (hp : p ∈ S) : Ag M (sJ M' p j v) S := by
  refine ⟨h.1, h.2.1, h.2.2.1, fun q hq k => ?_⟩
  rw [gJ_sJ, if_neg (show ¬ (q = p ∧ k = j) from fun e => hq (e.1 ▸ hp))]
  exact h.2.2.2 q hq k
theorem Ag.tr {M M' M2 : MM} {S : List Nat} (h : Ag M M' S) (h2 : Ag M' M2 S) : Ag M M2 S := ⟨h2.1.trans h.1, fun p j => (h2.2.1 p j).trans (h.2.1 p j), fun p hp j => (h2.2.2.1 p hp j).trans (h.2.2.1 p hp j), fun p hp j => (h2.2.2.2 p hp j).trans (h.2.2.2 p hp j)⟩
theorem Ag.mono {M M' : MM} {S S' : List Nat} (h : Ag M M' S) (hs : ∀ p ∈ S, p ∈ S') : Ag M M' S' := ⟨h.1, h.2.1, fun p hp => h.2.2.1 p (fun e => hp (hs p e)), fun p hp => h.2.2.2 p (fun e => hp (hs p e))⟩
theorem LAY.ag {M M' : MM} {S : List Nat} {sp dr : Nat} (h : LAY M sp dr) (a : Ag M M' S) : LAY M' sp dr := h.of a.1 a.2.1
theorem CTg.ag {M M' : MM} {S : List Nat} {t : Nat} {T : TG} (h : CTg M t T) (a : Ag M M' S) (hT : tNw T ≤ 9 ∧ tNs T ≤ 4) (hd : ∀ p ∈ S, p < t ∨ t + 29 ≤ p) : CTg M' t T := by
  have e : ∀ p, t ≤ p → p < t + 29 → ∀ j, gI M' p j = gI M p j := fun p h1 h2 => a.2.2.1 p (fun hp => by have := hd p hp; omega)
  refine ⟨by rw [e t (by omega) (by omega)]; exact h.1, by rw [e t (by omega) (by omega)]; exact h.2.1, fun w hw => ?_, fun s hs => ?_⟩
  · simp only [e (t + 3 + 2 * w) (by omega) (by omega), e (t + 4 + 2 * w) (by omega) (by omega)]
    exact h.2.2.1 w hw
  · simp only [e (t + 21 + 2 * s) (by omega) (by omega), e (t + 22 + 2 * s) (by omega) (by omega)]
    exact h.2.2.2 s hs
theorem MTg.ag {M M' : MM} {S : List Nat} {p : Nat} {T : TG} (h : MTg M p T) (a : Ag M M' S) (hd : p ∉ S) : MTg M' p T := by
  unfold MTg at h ⊢
  simp only [a.2.2.1 p hd]
  exact h
theorem SAY.ag {M M' : MM} {S : List Nat} {T : TG} (h : SAY M T) (a : Ag M M' S) (hd : ∀ p ∈ S, p < 3 ∨ 13 ≤ p) : SAY M' T := by
  have e : ∀ p, 3 ≤ p → p < 13 → ∀ j, gI M' p j = gI M p j := fun p h1 h2 => a.2.2.1 p (fun hp => by have := hd p hp; omega)
  have e2 : ∀ j, gJ M' 9 j = gJ M 9 j := a.2.2.2 9 (fun hp => by have := hd 9 hp; omega)
  unfold SAY at h ⊢
  simp only [e 3 (by decide) (by decide), e 4 (by decide) (by decide), e 5 (by decide) (by decide), e 6 (by decide) (by decide), e 7 (by decide) (by decide), e 8 (by decide) (by decide), e 10 (by decide) (by decide), e 11 (by decide) (by decide), e 12 (by decide) (by decide), e2]
  exact h
theorem LST.ag {M M' : MM} {S : List Nat} {T : TG} (h : LST M T) (a : Ag M M' S) (h0 : gI M' 81 12 = gI M 81 12) (hd : 88 ∉ S ∧ 89 ∉ S ∧ 90 ∉ S ∧ 91 ∉ S) : LST M' T := by
  unfold LST at h ⊢
  simp only [a.2.2.1 88 hd.1, a.2.2.1 89 hd.2.1, a.2.2.1 90 hd.2.2.1, a.2.2.1 91 hd.2.2.2, h0]
  exact h
theorem RWS.ag {M M' : MM} {S : List Nat} {T : TG} {x m o k : Nat} (h : RWS M T x m o k) (a : Ag M M' S) (hd : x ∉ S ∧ m ∉ S) : RWS M' T x m o k := by
  unfold RWS at h ⊢
  simp only [a.2.2.1 x hd.1, a.2.2.1 m hd.2]
  exact h
theorem TXT.ag {M M' : MM} {S : List Nat} (h : TXT M) (a : Ag M M' S) (h0 : gI M' 81 2 = gI M 81 2) (hd : 1 ∉ S ∧ 2 ∉ S ∧ 82 ∉ S) : TXT M' := by
  unfold TXT at h ⊢
  simp only [a.2.2.1 1 hd.1, a.2.2.1 2 hd.2.1, a.2.2.1 82 hd.2.2, h0]
  exact h
theorem PST.ag {M M' : MM} {S : List Nat} {T : TG} (h : PST M T) (a : Ag M M' S) (hd : 16 ∉ S ∧ 17 ∉ S ∧ 85 ∉ S) : PST M' T := by
  obtain ⟨k, h1, h2, h3, h4⟩ := h
  exact ⟨k, h1, by rw [a.2.2.1 16 hd.1]; exact h2, by rw [a.2.2.1 85 hd.2.2]; exact h3, h4.ag a ⟨hd.2.1, hd.2.2⟩⟩
theorem IMG.ag {M M' : MM} {S : List Nat} {T : TG} {j : Nat} (h : IMG M T j) (a : Ag M M' S) (hd : 19 + 2 * j ∉ S ∧ 20 + 2 * j ∉ S ∧ 86 ∉ S ∧ 87 ∉ S) : IMG M' T j := by
  unfold IMG at h ⊢
  simp only [a.2.2.1 _ hd.1, a.2.2.1 86 hd.2.2.1, a.2.2.1 87 hd.2.2.2]
  refine ⟨h.1, h.2.imp id fun q => ⟨q.1, ?_⟩⟩
  obtain ⟨k, h1, h2, h3, h4⟩ := q.2
  exact ⟨k, h1, h2, h3, h4.ag a ⟨hd.2.1, hd.2.2.1⟩⟩
