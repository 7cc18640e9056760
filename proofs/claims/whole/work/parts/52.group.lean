/-! PURE: letters of the same counts, in groups -/
theorem sc_iff {T : TG} {l m : Nat} : sameC T l m = true ↔ ∀ s, s < 8 → cn T l s = cn T m s := by
  unfold sameC
  rw [List.all_eq_true]
  exact ⟨fun h s hs => of_decide_eq_true (h s (List.mem_range.mpr hs)), fun h s hs => decide_eq_true (h s (List.mem_range.mp hs))⟩
theorem sc_rfl {T : TG} {l : Nat} : sameC T l l = true := sc_iff.mpr fun _ _ => rfl
theorem sc_sym {T : TG} {l m : Nat} : sameC T l m = sameC T m l := Bool.eq_iff_iff.mpr ⟨fun h => sc_iff.mpr fun s hs => (sc_iff.mp h s hs).symm, fun h => sc_iff.mpr fun s hs => (sc_iff.mp h s hs).symm⟩
theorem sc_tr {T : TG} {l m : Nat} (h : sameC T l m = true) (x : Nat) : sameC T l x = sameC T m x := Bool.eq_iff_iff.mpr ⟨fun q => sc_iff.mpr fun s hs => (sc_iff.mp h s hs).symm.trans (sc_iff.mp q s hs), fun q => sc_iff.mpr fun s hs => (sc_iff.mp h s hs).trans (sc_iff.mp q s hs)⟩
theorem pick_no {T : TG} {p : Nat → Bool} {A : List Nat} {l : Nat} (h : p l = false) : pick T p (A ++ [l]) = pick T p A := by
  rw [pick_app, pickS, h, if_neg (fun e => absurd e.1 (by decide))]
theorem pick_y1 {T : TG} {p : Nat → Bool} {A : List Nat} {l : Nat} (h : p l = true) (h2 : pick T p A = 0 ∨ ownL T (pick T p A) < ownL T l) : pick T p (A ++ [l]) = l := by
  rw [pick_app, pickS, if_pos ⟨h, h2⟩]
theorem pick_y0 {T : TG} {p : Nat → Bool} {A : List Nat} {l : Nat} (h2 : ¬ (pick T p A = 0 ∨ ownL T (pick T p A) < ownL T l)) : pick T p (A ++ [l]) = pick T p A := by
  rw [pick_app, pickS, if_neg (fun e => h2 e.2)]
theorem pick_rmF {T : TG} {p q : Nat → Bool} {l : Nat} (hl : ¬ l = 0) (hq : ∀ m, ¬ m = l → q m = p m) (hql : q l = false) : ∀ (A : List Nat) (b c : Nat), (b = c ∨ (b = l ∧ (c = 0 ∨ ownL T c ≤ ownL T l))) → A.foldl (pickS T p) b = A.foldl (pickS T q) c ∨ A.foldl (pickS T p) b = l
  | [], b, c, h => by
    rcases h with h | h
    · exact Or.inl h
    · exact Or.inr h.1
  | a :: A, b, c, h => by
    rw [List.foldl_cons, List.foldl_cons]
    refine pick_rmF hl hq hql A _ _ ?_
    by_cases ha : a = l
    · subst ha
      have e : pickS T q c a = c := by rw [pickS, hql, if_neg (fun e => absurd e.1 (by decide))]
      rw [e, pickS]
      rcases h with h | h
      · by_cases hc : p a = true ∧ (b = 0 ∨ ownL T b < ownL T a)
        · rw [if_pos hc]
          refine Or.inr ⟨rfl, ?_⟩
          rw [← h]
          exact hc.2.imp id Nat.le_of_lt
        · rw [if_neg hc]
          exact Or.inl h
      · rw [h.1]
        split
        · exact Or.inr ⟨rfl, h.2⟩
        · exact Or.inr ⟨rfl, h.2⟩
    · have hpa := hq a ha
      rcases h with h | h
      · refine Or.inl ?_
        rw [pickS, pickS, hpa, h]
      · obtain ⟨h1, h2⟩ := h
        rw [pickS, pickS, hpa, h1]
        by_cases hp : p a = true
        · by_cases ho : ownL T l < ownL T a
          · rw [if_pos ⟨hp, Or.inr ho⟩, if_pos ⟨hp, h2.imp id (fun q => by omega)⟩]
            exact Or.inl rfl
          · rw [if_neg (fun e => e.2.elim hl ho)]
            refine Or.inr ⟨rfl, ?_⟩
            by_cases hc : p a = true ∧ (c = 0 ∨ ownL T c < ownL T a)
            · rw [if_pos hc]
              exact Or.inr (by omega)
            · rw [if_neg hc]
              exact h2
        · rw [if_neg (fun e => hp e.1), if_neg (fun e => hp e.1)]
          exact Or.inr ⟨rfl, h2⟩
theorem pick_rm {T : TG} {p q : Nat → Bool} {l : Nat} {A : List Nat} (hl : ¬ l = 0) (hq : ∀ m, ¬ m = l → q m = p m) (hql : q l = false) (h : ¬ pick T p A = l) : pick T q A = pick T p A := ((pick_rmF hl hq hql A 0 0 (Or.inl rfl)).resolve_right h).symm
def upN (f : Nat → Nat) (k v j : Nat) : Nat := if j = k then v else f j
theorem upN_s {f : Nat → Nat} {k v : Nat} : upN f k v k = v := if_pos rfl
theorem upN_o {f : Nat → Nat} {k v j : Nat} (h : ¬ j = k) : upN f k v j = f j := if_neg h
def GI (T : TG) (A : List Nat) (g : Nat) (B N G : Nat → Nat) : Prop := g ≤ A.length ∧ (∀ k, k < g → B k ∈ A ∧ pick T (sameC T (B k)) A = B k ∧ pick T (ans0 T (B k)) A = N k) ∧ (∀ k j, k < g → j < g → sameC T (B k) (B j) = true → k = j) ∧ ∀ m, m ∈ A → G m < g ∧ sameC T (B (G m)) m = true
theorem an_self {T : TG} {l : Nat} : ans0 T l l = false := by
  unfold ans0
  simp
theorem an_oth {T : TG} {l m : Nat} (h : ¬ m = l) : ans0 T l m = sameC T l m := by
  unfold ans0
  rw [decide_eq_true h, Bool.true_and]
theorem an_f {T : TG} {l m : Nat} (h : sameC T l m = false) : ans0 T l m = false := by
  unfold ans0
  rw [h, Bool.and_false]
theorem GI.new {T : TG} {A : List Nat} {g l : Nat} {B N G : Nat → Nat} (h : GI T A g B N G) (hA : ∀ x, x ∈ A → x < l) (hk : ∀ k, k < g → sameC T (B k) l = false) : GI T (A ++ [l]) (g + 1) (upN B g l) (upN N g 0) (upN G l g) := by
  obtain ⟨h1, h2, h3, h4⟩ := h
  have hz : ∀ m, m ∈ A → sameC T l m = false := fun m hm => by
    have q := h4 m hm
    cases e : sameC T l m with
    | false => rfl
    | true =>
      have := hk (G m) q.1
      rw [sc_tr q.2, sc_sym, e] at this
      cases this
  have p0 : pick T (sameC T l) A = 0 := by
    rcases pick_mem (T := T) (p := sameC T l) A with q | q
    · exact q
    · have := hz _ q.1
      rw [q.2] at this
      cases this
  have p1 : pick T (ans0 T l) A = 0 := by
    rw [pick_congr (q := sameC T l) (fun m hm => an_oth (by have := hA m hm; omega))]
    exact p0
  refine ⟨by rw [List.length_append]; exact Nat.succ_le_succ h1, fun k hkg => ?_, fun k j hk1 hj1 hs => ?_, fun m hm => ?_⟩
  · by_cases e : k = g
    · rw [e, upN_s, upN_s]
      exact ⟨by simp, pick_y1 sc_rfl (Or.inl p0), by rw [pick_no an_self]; exact p1⟩
    · rw [upN_o e, upN_o e]
      obtain ⟨q1, q2, q3⟩ := h2 k (by omega)
      have hf := hk k (by omega)
      exact ⟨List.mem_append_left _ q1, by rw [pick_no hf]; exact q2, by rw [pick_no (an_f hf)]; exact q3⟩
  · by_cases e : k = g
    · by_cases e2 : j = g
      · omega
      · rw [e, upN_s, upN_o e2, sc_sym, hk j (by omega)] at hs
        cases hs
    · by_cases e2 : j = g
      · rw [e2, upN_s, upN_o e, hk k (by omega)] at hs
        cases hs
      · rw [upN_o e, upN_o e2] at hs
        exact h3 k j (by omega) (by omega) hs
  · rcases List.mem_append.mp hm with q | q
    · have hml := hA m q
      obtain ⟨q1, q2⟩ := h4 m q
      rw [upN_o (show ¬ m = l by omega), upN_o (show ¬ G m = g by omega)]
      exact ⟨by omega, q2⟩
    · have : m = l := by simpa using q
      rw [this, upN_s, upN_s]
      exact ⟨by omega, sc_rfl⟩
theorem GI.old {T : TG} {A : List Nat} {g l k : Nat} {B N G B' N' : Nat → Nat} (h : GI T A g B N G) (hA : ∀ x, x ∈ A → x < l) (hk : k < g) (hs : sameC T (B k) l = true) (hB : ∀ j, ¬ j = k → B' j = B j) (hN : ∀ j, ¬ j = k → N' j = N j) (hb : ∀ x, sameC T (B' k) x = sameC T (B k) x) (k1 : B' k ∈ A ++ [l]) (k2 : pick T (sameC T (B' k)) (A ++ [l]) = B' k) (k3 : pick T (ans0 T (B' k)) (A ++ [l]) = N' k) : GI T (A ++ [l]) g B' N' (upN G l k) := by
  obtain ⟨h1, h2, h3, h4⟩ := h
  have hb2 : ∀ j x, sameC T (B' j) x = sameC T (B j) x := fun j x => by
    by_cases e : j = k
    · rw [e]
      exact hb x
    · rw [hB j e]
  refine ⟨by rw [List.length_append]; exact Nat.le_succ_of_le h1, fun j hj => ?_, fun i j hi hj hsm => ?_, fun m hm => ?_⟩
  · by_cases e : j = k
    · rw [e]
      exact ⟨k1, k2, k3⟩
    · rw [hB j e, hN j e]
      obtain ⟨q1, q2, q3⟩ := h2 j hj
      have hf : sameC T (B j) l = false := by
        cases e2 : sameC T (B j) l with
        | false => rfl
        | true =>
          refine absurd (h3 j k hj hk ?_) e
          rw [sc_tr e2, sc_sym]
          exact hs
      exact ⟨List.mem_append_left _ q1, by rw [pick_no hf]; exact q2, by rw [pick_no (an_f hf)]; exact q3⟩
  · rw [hb2, sc_sym, hb2, sc_sym] at hsm
    exact h3 i j hi hj hsm
  · rcases List.mem_append.mp hm with q | q
    · have hml := hA m q
      obtain ⟨q1, q2⟩ := h4 m q
      rw [upN_o (show ¬ m = l by omega), hb2]
      exact ⟨q1, q2⟩
    · have : m = l := by simpa using q
      rw [this, upN_s, hb2]
      exact ⟨hk, hs⟩
theorem GI.old1 {T : TG} {A : List Nat} {g l k : Nat} {B N G : Nat → Nat} (h : GI T A g B N G) (hA : ∀ x, x ∈ A → 1 ≤ x ∧ x < l) (hk : k < g) (hs : sameC T (B k) l = true) (ho : ownL T (B k) < ownL T l) : GI T (A ++ [l]) g (upN B k l) (upN N k (B k)) (upN G l k) := by
  obtain ⟨q1, q2, q3⟩ := h.2.1 k hk
  have e1 : pick T (sameC T l) A = B k := by
    rw [pick_congr (q := sameC T (B k)) (fun m _ => (sc_tr hs m).symm)]
    exact q2
  refine h.old (fun x hx => (hA x hx).2) hk hs (fun j e => upN_o e) (fun j e => upN_o e) (fun x => by rw [upN_s, sc_tr hs]) (by rw [upN_s]; simp) ?_ ?_
  · rw [upN_s]
    refine pick_y1 sc_rfl (Or.inr ?_)
    rw [e1]
    exact ho
  · rw [upN_s, upN_s, pick_no an_self, pick_congr (q := sameC T l) (fun m hm => an_oth (by have := hA m hm; omega))]
    exact e1
theorem GI.old2 {T : TG} {A : List Nat} {g l k : Nat} {B N G : Nat → Nat} (h : GI T A g B N G) (hA : ∀ x, x ∈ A → 1 ≤ x ∧ x < l) (hk : k < g) (hs : sameC T (B k) l = true) (ho : ¬ ownL T (B k) < ownL T l) (hn : N k = 0 ∨ ownL T (N k) < ownL T l) : GI T (A ++ [l]) g B (upN N k l) (upN G l k) := by
  obtain ⟨q1, q2, q3⟩ := h.2.1 k hk
  have hb := hA _ q1
  refine h.old (fun x hx => (hA x hx).2) hk hs (fun j e => rfl) (fun j e => upN_o e) (fun x => rfl) (List.mem_append_left _ q1) ?_ ?_
  · rw [pick_y0 (by rw [q2]; exact fun e => e.elim (by omega) ho)]
    exact q2
  · rw [upN_s]
    refine pick_y1 (by rw [an_oth (by omega)]; exact hs) ?_
    rw [q3]
    exact hn
theorem GI.old3 {T : TG} {A : List Nat} {g l k : Nat} {B N G : Nat → Nat} (h : GI T A g B N G) (hA : ∀ x, x ∈ A → 1 ≤ x ∧ x < l) (hk : k < g) (hs : sameC T (B k) l = true) (ho : ¬ ownL T (B k) < ownL T l) (hn : ¬ (N k = 0 ∨ ownL T (N k) < ownL T l)) : GI T (A ++ [l]) g B N (upN G l k) := by
  obtain ⟨q1, q2, q3⟩ := h.2.1 k hk
  have hb := hA _ q1
  refine h.old (fun x hx => (hA x hx).2) hk hs (fun j e => rfl) (fun j e => rfl) (fun x => rfl) (List.mem_append_left _ q1) ?_ ?_
  · rw [pick_y0 (by rw [q2]; exact fun e => e.elim (by omega) ho)]
    exact q2
  · rw [pick_y0 (by rw [q3]; exact hn)]
    exact q3
/-- the best answer out of the groups -/
theorem GI.best {T : TG} {g l : Nat} {B N G : Nat → Nat} (h : GI T (Lt T) g B N G) (hl : l ∈ Lt T) (hl0 : ¬ l = 0) : best0 T l = if B (G l) = l then N (G l) else B (G l) := by
  obtain ⟨q1, q2⟩ := h.2.2.2 l hl
  obtain ⟨p1, p2, p3⟩ := h.2.1 _ q1
  by_cases e : B (G l) = l
  · rw [if_pos e, ← p3, e]
    rfl
  · rw [if_neg e]
    have e2 : pick T (sameC T l) (Lt T) = B (G l) := by
      rw [pick_congr (q := sameC T (B (G l))) (fun m _ => (sc_tr q2 m).symm)]
      exact p2
    unfold best0
    rw [pick_rm (p := sameC T l) hl0 (fun m hm => an_oth hm) an_self (by rw [e2]; exact e)]
    exact e2
