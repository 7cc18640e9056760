/-! THE MEMORY: cells are numbered by the order in which they are made; a cell's content is a row of ints, a row of longs and a row of references (to numbers) -/
abbrev MM : Type := Nat × (Nat → Nat → Int32) × (Nat → Nat → Int64) × (Nat → Nat → Option Nat)
def gI (M : MM) (p j : Nat) : Int32 := M.2.1 p j
def gJ (M : MM) (p j : Nat) : Int64 := M.2.2.1 p j
def gR (M : MM) (p j : Nat) : Option Nat := M.2.2.2 p j
def sI (M : MM) (p j : Nat) (v : Int32) : MM := (M.1, fun a c => if a = p ∧ c = j then v else M.2.1 a c, M.2.2)
def sJ (M : MM) (p j : Nat) (v : Int64) : MM := (M.1, M.2.1, fun a c => if a = p ∧ c = j then v else M.2.2.1 a c, M.2.2.2)
def sR (M : MM) (p j : Nat) (v : Option Nat) : MM := (M.1, M.2.1, M.2.2.1, fun a c => if a = p ∧ c = j then v else M.2.2.2 a c)
def nP (M : MM) : MM := (M.1 + 1, fun a c => if a = M.1 then 0 else M.2.1 a c, fun a c => if a = M.1 then 0 else M.2.2.1 a c, fun a c => if a = M.1 then none else M.2.2.2 a c)
/-- which kind of cell each number is (0 .. 7 the classes of vwCl, 8 int[], 9 long[], 10 boolean[], 11 Post[], 12 Shape[], 13 Word[]) -/
def kdL : List Nat := [6, 3, 8, 1, 10, 8, 8, 8, 8, 9, 8, 8, 8, 8, 8, 8, 0, 8, 11, 0, 8, 0, 8, 4, 13, 12, 5, 8, 5, 8, 5, 8, 5, 8, 5, 8, 5, 8, 5, 8, 5, 8, 5, 8, 2, 8, 2, 8, 2, 8, 2, 8, 4, 13, 12, 5, 8, 5, 8, 5, 8, 5, 8, 5, 8, 5, 8, 5, 8, 5, 8, 5, 8, 2, 8, 2, 8, 2, 8, 2, 8, 7, 8, 8, 8, 8, 8, 10, 8, 8, 8, 8, 8]
def lnL : List Nat := [0, 0, 200, 0, 1000, 1000, 1000, 1000, 1000, 1000, 1000, 1000, 256, 1000, 1000, 1000, 0, 12, 2, 0, 12, 0, 12, 0, 9, 4, 0, 5, 0, 5, 0, 5, 0, 5, 0, 5, 0, 5, 0, 5, 0, 5, 0, 5, 0, 3, 0, 3, 0, 3, 0, 3, 0, 9, 4, 0, 5, 0, 5, 0, 5, 0, 5, 0, 5, 0, 5, 0, 5, 0, 5, 0, 5, 0, 3, 0, 3, 0, 3, 0, 3, 0, 200, 110, 110, 13, 26, 2, 820, 820, 820, 820, 100]
def kd (p : Nat) : Nat := kdL.getD p 99
def ln (p : Nat) : Nat := lnL.getD p 0
/-- the fields of each class: 0 an int, 1 a long, 2 a reference -/
def fl : Nat → List Nat
  | 0 => [2, 0, 0]
  | 1 => [2, 2, 2, 2, 2, 2, 2, 2, 2, 0, 2, 2, 2, 0]
  | 2 => [2, 0]
  | 3 => [2, 0, 0, 0, 0, 0]
  | 4 => [2, 2, 0, 0]
  | 5 => [2, 0, 0, 0, 0]
  | 6 => [2, 2, 2, 2, 2, 2, 1]
  | 7 => [1, 2, 0, 2, 2, 2, 2, 2, 2, 2, 2, 2, 0, 0, 0, 0, 0, 2]
  | _ => []
def szP (p : Nat) : Nat := if kd p < 8 then (fl (kd p)).length else ln p
def Zs : Nat → Nat
  | 0 => 0
  | n + 1 => Zs n + szP n
def cv (b : Nat) (M : MM) (p t j : Nat) : Value := if t = 0 then .int (gI M p j) else if t = 1 then .long (gJ M p j) else va_rf ((gR M p j).map (b + ·))
def cel (b : Nat) (cy : Nat → ClassId) (M : MM) (p : Nat) : va_E :=
  if kd p < 8 then .inr (kd p, (fl (kd p)).mapIdx (fun j t => cv b M p t j))
  else if kd p = 9 then .inl (cy 9, ln p, .inr (.inl (gJ M p)))
  else if kd p = 8 ∨ kd p = 10 then .inl (cy (kd p), ln p, .inl (gI M p))
  else .inl (cy (kd p), ln p, .inr (.inr (.inr (.inr (fun j => (gR M p j).map (b + ·))))))
def wl (b : Nat) (cy : Nat → ClassId) (M : MM) : va_W := (List.range M.1).map fun p => (b + p, cel b cy M p)
def tysL (cy : Nat → ClassId) : List (ClassId × FieldType) := [(cy 8, .int), (cy 9, .long), (cy 10, .boolean), (cy 11, .object RX0), (cy 12, .object RX2), (cy 13, .object RX5)]
theorem wl_get {b : Nat} {cy : Nat → ClassId} {M : MM} {p : Nat} (h : p < M.1) : (wl b cy M)[p]? = some (b + p, cel b cy M p) := by simp [wl, h]
theorem wl_at {b : Nat} {cy : Nat → ClassId} {M : MM} {k : Nat} {q : Nat × va_E} (h : (wl b cy M)[k]? = some q) : k < M.1 ∧ q = (b + k, cel b cy M k) := by
  have hk : k < M.1 := by
    have := (List.getElem?_eq_some_iff.mp h).1
    simpa [wl] using this
  rw [wl_get hk] at h
  exact ⟨hk, (Option.some.inj h).symm⟩
theorem wl_D {b : Nat} {cy : Nat → ClassId} {M : MM} : va_D (fun q : Nat => b ≤ q) (wl b cy M) := by
  refine ⟨fun i j p q hi hj h => ?_, fun k q hk => ?_⟩
  · obtain ⟨-, rfl⟩ := wl_at hi
    obtain ⟨-, rfl⟩ := wl_at hj
    have : b + i = b + j := h
    omega
  · obtain ⟨-, rfl⟩ := wl_at hk
    show b ≤ b + k
    omega
theorem wl_set {b : Nat} {cy : Nat → ClassId} {M M' : MM} {p : Nat} {e : va_E} (hn : M'.1 = M.1) (he : cel b cy M' p = e) (ho : ∀ q, q ≠ p → cel b cy M' q = cel b cy M q) : (wl b cy M).set p (b + p, e) = wl b cy M' := by
  apply List.ext_getElem?
  intro k
  rw [List.getElem?_set]
  by_cases hk : p = k
  · subst hk
    rw [if_pos rfl]
    by_cases hl : p < M.1
    · rw [wl_get (M := M') (hn ▸ hl), if_pos (by simpa [wl] using hl), he]
    · simp [wl, hl, hn]
  · rw [if_neg hk]
    by_cases hl : k < M.1
    · rw [wl_get hl, wl_get (M := M') (hn ▸ hl), ho k (fun h => hk h.symm)]
    · simp [wl, hl, hn]
theorem wl_push {b : Nat} {cy : Nat → ClassId} {M M' : MM} {e : va_E} (hn : M'.1 = M.1 + 1) (he : cel b cy M' M.1 = e) (ho : ∀ q, q < M.1 → cel b cy M' q = cel b cy M q) : wl b cy M ++ [(b + M.1, e)] = wl b cy M' := by
  unfold wl
  rw [hn, List.range_succ, List.map_append]
  congr 1
  · apply List.map_congr_left
    intro q hq
    rw [ho q (List.mem_range.mp hq)]
  · simp [he]
theorem cel_obj {b : Nat} {cy : Nat → ClassId} {M : MM} {p c : Nat} (h : kd p = c) (hc : c < 8) : cel b cy M p = .inr (c, (fl c).mapIdx (fun j t => cv b M p t j)) := by
  subst h
  simp [cel, hc]
theorem cel_I {b : Nat} {cy : Nat → ClassId} {M : MM} {p : Nat} (h : kd p = 8) : cel b cy M p = .inl (cy 8, ln p, .inl (gI M p)) := by simp [cel, h]
theorem cel_Z {b : Nat} {cy : Nat → ClassId} {M : MM} {p : Nat} (h : kd p = 10) : cel b cy M p = .inl (cy 10, ln p, .inl (gI M p)) := by simp [cel, h]
theorem cel_J {b : Nat} {cy : Nat → ClassId} {M : MM} {p : Nat} (h : kd p = 9) : cel b cy M p = .inl (cy 9, ln p, .inr (.inl (gJ M p))) := by simp [cel, h]
theorem cel_R {b : Nat} {cy : Nat → ClassId} {M : MM} {p c : Nat} (h : kd p = c) (hc : 10 < c) : cel b cy M p = .inl (cy c, ln p, .inr (.inr (.inr (.inr (fun j => (gR M p j).map (b + ·)))))) := by
  subst h
  have h1 : ¬ kd p < 8 := by omega
  have h2 : ¬ kd p = 9 := by omega
  have h3 : ¬ (kd p = 8 ∨ kd p = 10) := by omega
  simp only [cel, if_neg h1, if_neg h2, if_neg h3]
theorem gI_row {M : MM} {p j q : Nat} {v : Int32} (h : q ≠ p) : gI (sI M p j v) q = gI M q := by
  funext c
  simp [gI, sI, h]
theorem cel_sI {b : Nat} {cy : Nat → ClassId} {M : MM} {p j q : Nat} {v : Int32} (h : q ≠ p) : cel b cy (sI M p j v) q = cel b cy M q := by
  have e : gI (sI M p j v) q = gI M q := gI_row h
  have e2 : gJ (sI M p j v) q = gJ M q := rfl
  have e3 : gR (sI M p j v) q = gR M q := rfl
  simp only [cel, cv, e, e2, e3]
theorem cel_sJ {b : Nat} {cy : Nat → ClassId} {M : MM} {p j q : Nat} {v : Int64} (h : q ≠ p) : cel b cy (sJ M p j v) q = cel b cy M q := by
  have e : gJ (sJ M p j v) q = gJ M q := by
    funext c
    simp [gJ, sJ, h]
  have e2 : gI (sJ M p j v) q = gI M q := rfl
  have e3 : gR (sJ M p j v) q = gR M q := rfl
  simp only [cel, cv, e, e2, e3]
theorem cel_sR {b : Nat} {cy : Nat → ClassId} {M : MM} {p j q : Nat} {v : Option Nat} (h : q ≠ p) : cel b cy (sR M p j v) q = cel b cy M q := by
  have e : gR (sR M p j v) q = gR M q := by
    funext c
    simp [gR, sR, h]
  have e2 : gI (sR M p j v) q = gI M q := rfl
  have e3 : gJ (sR M p j v) q = gJ M q := rfl
  simp only [cel, cv, e, e2, e3]
theorem cel_nP {b : Nat} {cy : Nat → ClassId} {M : MM} {q : Nat} (h : q < M.1) : cel b cy (nP M) q = cel b cy M q := by
  have h1 : q ≠ M.1 := by omega
  have e : gI (nP M) q = gI M q := by
    funext c
    simp [gI, nP, h1]
  have e2 : gJ (nP M) q = gJ M q := by
    funext c
    simp [gJ, nP, h1]
  have e3 : gR (nP M) q = gR M q := by
    funext c
    simp [gR, nP, h1]
  simp only [cel, cv, e, e2, e3]
/-! the operations on the memory, with their guards -/
def fI (M : MM) (p c k : Nat) : Option Int32 := if p < M.1 ∧ kd p = c then some (gI M p k) else none
def fJ (M : MM) (p c k : Nat) : Option Int64 := if p < M.1 ∧ kd p = c then some (gJ M p k) else none
def fR (M : MM) (p c k : Nat) : Option Nat := if p < M.1 ∧ kd p = c then gR M p k else none
def wfI (M : MM) (p c k : Nat) (v : Int32) : Option MM := if p < M.1 ∧ kd p = c then some (sI M p k v) else none
def wfZ (M : MM) (p c k : Nat) (v : Int32) : Option MM := if p < M.1 ∧ kd p = c ∧ (v = 0 ∨ v = 1) then some (sI M p k v) else none
def wfJ (M : MM) (p c k : Nat) (v : Int64) : Option MM := if p < M.1 ∧ kd p = c then some (sJ M p k v) else none
def wfR (M : MM) (p c k : Nat) (v : Nat) : Option MM := if p < M.1 ∧ kd p = c ∧ v < M.1 then some (sR M p k (some v)) else none
def aI (M : MM) (p : Nat) (i : Int32) : Option Int32 := if p < M.1 ∧ kd p = 8 ∧ ¬ (i < 0 ∨ ln p ≤ i.toNatClampNeg) then some (gI M p i.toNatClampNeg) else none
def aZ (M : MM) (p : Nat) (i : Int32) : Option Int32 := if p < M.1 ∧ kd p = 10 ∧ ¬ (i < 0 ∨ ln p ≤ i.toNatClampNeg) then some (gI M p i.toNatClampNeg) else none
def aJ (M : MM) (p : Nat) (i : Int32) : Option Int64 := if p < M.1 ∧ kd p = 9 ∧ ¬ (i < 0 ∨ ln p ≤ i.toNatClampNeg) then some (gJ M p i.toNatClampNeg) else none
def aR (M : MM) (p c : Nat) (i : Int32) : Option Nat := if p < M.1 ∧ kd p = c ∧ ¬ (i < 0 ∨ ln p ≤ i.toNatClampNeg) then gR M p i.toNatClampNeg else none
def waI (M : MM) (p : Nat) (i v : Int32) : Option MM := if p < M.1 ∧ kd p = 8 ∧ ¬ (i < 0 ∨ ln p ≤ i.toNatClampNeg) then some (sI M p i.toNatClampNeg v) else none
def waZ (M : MM) (p : Nat) (i v : Int32) : Option MM := if p < M.1 ∧ kd p = 10 ∧ ¬ (i < 0 ∨ ln p ≤ i.toNatClampNeg) ∧ (v = 0 ∨ v = 1) then some (sI M p i.toNatClampNeg v) else none
def waJ (M : MM) (p : Nat) (i : Int32) (v : Int64) : Option MM := if p < M.1 ∧ kd p = 9 ∧ ¬ (i < 0 ∨ ln p ≤ i.toNatClampNeg) then some (sJ M p i.toNatClampNeg v) else none
def waR (M : MM) (p c ce : Nat) (i : Int32) (v : Nat) : Option MM := if p < M.1 ∧ kd p = c ∧ ¬ (i < 0 ∨ ln p ≤ i.toNatClampNeg) ∧ v < M.1 ∧ kd v = ce then some (sR M p i.toNatClampNeg (some v)) else none
def nObj (M : MM) (lim c : Nat) : Option MM := if kd M.1 = c ∧ M.1 + 1 ≤ lim then some (nP M) else none
def nArr (M : MM) (lim c : Nat) (i : Int32) : Option MM := if kd M.1 = c ∧ ¬ i < 0 ∧ i.toNatClampNeg = ln M.1 ∧ M.1 + 1 ≤ lim then some (nP M) else none
theorem gd {α : Type} {c : Prop} [Decidable c] {e : Option α} {r : α} (h : (if c then e else none) = some r) : c ∧ e = some r := by
  by_cases hc : c
  · rw [if_pos hc] at h
    exact ⟨hc, h⟩
  · rw [if_neg hc] at h
    cases h
theorem bd {α β : Type} {o : Option α} {f : α → Option β} {r : β} (h : o.bind f = some r) : ∃ a, o = some a ∧ f a = some r := by
  cases o with
  | none => cases h
  | some a => exact ⟨a, rfl, h⟩
/-- a loop: the step answers what comes out of it, or the next state -/
def lp {σ ρ : Type} (step : σ → Option (ρ ⊕ σ)) : Nat → σ → Option ρ
  | 0, _ => none
  | n + 1, s => match step s with
    | none => none
    | some (.inl r) => some r
    | some (.inr t) => lp step n t
theorem lp_ind {σ ρ : Type} {step : σ → Option (ρ ⊕ σ)} {P : ρ → σ → Prop} (h : ∀ s r, (step s = some (.inl r) ∨ ∃ t, step s = some (.inr t) ∧ P r t) → P r s) : ∀ n s r, lp step n s = some r → P r s := by
  intro n
  induction n with
  | zero => intro s r e; cases e
  | succ n ih =>
    intro s r e
    unfold lp at e
    cases hs : step s with
    | none => rw [hs] at e; cases e
    | some x =>
      rw [hs] at e
      cases x with
      | inl r' => cases e; exact h s _ (Or.inl hs)
      | inr t => exact h s r (Or.inr ⟨t, hs, ih t r e⟩)
theorem lp_run {σ ρ : Type} {step : σ → Option (ρ ⊕ σ)} {r : ρ} (st : Nat → σ) (k : Nat) (h : ∀ i, i < k → step (st i) = some (.inr (st (i + 1)))) (hk : step (st k) = some (.inl r)) : ∀ n, k < n → lp step n (st 0) = some r := by
  have key : ∀ j, j ≤ k → ∀ n, j < n → lp step n (st (k - j)) = some r := by
    intro j
    induction j with
    | zero =>
      intro _ n hn
      obtain ⟨n, rfl⟩ : ∃ m, n = m + 1 := ⟨n - 1, by omega⟩
      unfold lp
      rw [Nat.sub_zero, hk]
    | succ j ih =>
      intro hj n hn
      obtain ⟨n, rfl⟩ : ∃ m, n = m + 1 := ⟨n - 1, by omega⟩
      unfold lp
      rw [h (k - (j + 1)) (by omega)]
      have := ih (by omega) n (by omega)
      rw [show k - (j + 1) + 1 = k - j by omega]
      exact this
  intro n hn
  have := key k (Nat.le_refl k) n hn
  rwa [Nat.sub_self] at this
def FU : Nat := 4000
/-! THE CONTEXT of a method's walk -/
abbrev GG : Type := Launch × va_G × (Nat → ClassId) × Nat × (Nat → Nat) × (Nat → Nat)
abbrev CT : Type := GG × Program × Env × Room × State × MethodId × Array Value × List Frame × Method × Code × (State → Prop) × Nat × Nat
def rf (G : GG) (p : Nat) : Value := .ref (G.2.2.2.1 + p)
def WS (X : CT) (M : MM) (pc : Nat) (loc : List (Nat × Value)) (st : List Value) : Prop :=
  match X with
  | ((l, D, cy, b, _, _), p, e, R, s, m, args, below, meth, c, Q, n0, nL) =>
    ∀ (H : Heap) (locs : List Loc) (ls : Array Slot), n0 ≤ M.1 → va_P D vwCl (wl b cy M) H → va_S (fun q : Nat => b ≤ q) s.heap H locs → lv_has ls nL loc → W p l e R s m args below meth c H locs (M.1 - n0) (Zs M.1 - Zs n0) Q (F0 m pc ls st)
/-- the words of the tables that hold at any later time, too -/
def tb : List Cond := lw_tbl.filter goodWord
theorem tbI {w : Cond} {i : Nat} (h : lw_tbl[i]? = some w) (hg : goodWord w = true) : w ∈ tb := List.mem_filter.mpr ⟨List.mem_of_getElem? h, hg⟩
def lenS : List Nat := [4, 5]
def bytS : List (List Int32) := [[119, 111, 114, 100], [115, 104, 97, 112, 101]]
def nestL : List Cond := [(Jvm.Cond.methodLinkNest "SameLetters" (11 : Nat) ({ cls := "SameLetters$Text", name := "<init>", desc := "()V" } : Jvm.MethodName) "SameLetters"), (Jvm.Cond.methodLinkNest "SameLetters" (18 : Nat) ({ cls := "SameLetters$Sayings", name := "<init>", desc := "()V" } : Jvm.MethodName) "SameLetters"), (Jvm.Cond.methodLinkNest "SameLetters" (25 : Nat) ({ cls := "SameLetters$Post", name := "<init>", desc := "()V" } : Jvm.MethodName) "SameLetters"), (Jvm.Cond.methodLinkNest "SameLetters$Tongue" (23 : Nat) ({ cls := "SameLetters$Word", name := "<init>", desc := "()V" } : Jvm.MethodName) "SameLetters"), (Jvm.Cond.methodLinkNest "SameLetters$Tongue" (24 : Nat) ({ cls := "SameLetters$Shape", name := "<init>", desc := "()V" } : Jvm.MethodName) "SameLetters")]
/-- what lies outside: the array classes of objects, the two String constants, two statics -/
def ENV (G : GG) (U : State) (H : Heap) : Prop := va_AO RX0 U ∧ va_AO RX2 U ∧ va_AO RX5 U ∧ vk_R RX3 38 "word" (G.2.2.2.2.1 0) U ∧ vk_R RX3 44 "shape" (G.2.2.2.2.1 1) U ∧ vk_S 2 lenS bytS G.2.2.2.2.1 G.2.2.2.2.2 (fun q : Nat => G.2.2.2.1 ≤ q) U H ∧ va_Z "java/lang/String" "COMPACT_STRINGS" "Z" (.int 1) (fun q : Nat => G.2.2.2.1 ≤ q) U H ∧ va_Zq "jdk/internal/util/Preconditions" "SIOOBE_FORMATTER" "Ljava/util/function/BiFunction;" (fun q : Nat => G.2.2.2.1 ≤ q) U H ∧ ∀ w ∈ nestL, va_Nw w U
/-- own: the class; d: the frames that are left; lim: up to which number cells may be made -/
def OKX (X : CT) (cc : ByteArray) (own : String) (d lim w : Nat) : Prop :=
  match X with
  | ((l, D, cy, b, adK, adV), p, _, R, s, m, args, _, meth, c, _, n0, nL) =>
    p.tables.exec = Jvm.exec ∧ c.code = cc ∧ c.maxLocals = nL ∧ s.vm.findClass own = some m.cls ∧ (∀ w ∈ tb, w.before args s = true) ∧ va_K D vwCl (tysL cy) s ∧ meth.locks = false ∧ s.heap.size = b + n0 ∧ ENV (l, D, cy, b, adK, adV) s s.heap ∧ d ≤ R.frames ∧ 32 * d ≤ R.locals ∧ lim - n0 ≤ R.cells ∧ Zs lim - Zs n0 ≤ R.slots ∧ nL = w
theorem Zs_mono {a b : Nat} (h : a ≤ b) : Zs a ≤ Zs b := by
  induction h with
  | refl => exact Nat.le_refl _
  | step _ ih => exact Nat.le_trans ih (Nat.le_add_right _ _)
/-- the heap's size, out of what stands at every point of a walk -/
theorem ws_size {p : Program} {l : Launch} {e : Env} {R : Room} {s : State} {m : MethodId} {args : Array Value} {below : List Frame} {meth : Method} {c : Code} {H : Heap} {locs : List Loc} {Q : State → Prop} {g : JFrame} {D : va_G} {cy : Nat → ClassId} {b n0 k z : Nat} {M : MM} (hsz : s.heap.size = b + n0) (hk : n0 + k = M.1) (hP : va_P D vwCl (wl b cy M) H) (hS : va_S (fun q : Nat => b ≤ q) s.heap H locs)
    (kk : H.size = b + M.1 → W p l e R s m args below meth c H locs k z Q g) : W p l e R s m args below meth c H locs k z Q g := by
  intro T hT X
  have h1 := X.heapSize
  rw [hT, hsz] at h1
  have h2 : b + M.1 ≤ H.size := by
    rcases Nat.eq_zero_or_pos M.1 with hz | hz
    · have := hS.1
      omega
    · have := (hP (M.1 - 1) _ (wl_get (by omega))).lt
      have h3 : b + (M.1 - 1) < H.size := this
      omega
  exact kk (by omega) T hT X
theorem s_iconst {X : CT} {cc : ByteArray} {own : String} {d lim w : Nat} (O : OKX X cc own d lim w) {M : MM} {pc : Nat} {loc : List (Nat × Value)} {st : List Value} {n : Int} {v : Int32} (hd : decode cc pc = .ok (.iconst n, 1)) (hv : Int32.ofInt n = v) (kk : WS X M (pc + 1) loc (.int v :: st)) : WS X M pc loc (st) := by
  obtain ⟨⟨l, D, cy, b, adK, adV⟩, p0, e, R, s, m, args, below, meth, c, Q, n0, nL⟩ := X
  obtain ⟨hx, hb, hml, hown, hts, hK, hlocks, hsz, hE, hfr, hlo, hce, hsl, hw⟩ := O
  intro H locs ls h0 hP hS hl
  exact lv_iconst hx hb hd hv (kk H locs ls h0 hP hS hl)
theorem s_bipush {X : CT} {cc : ByteArray} {own : String} {d lim w : Nat} (O : OKX X cc own d lim w) {M : MM} {pc : Nat} {loc : List (Nat × Value)} {st : List Value} {n : Int} {v : Int32} (hd : decode cc pc = .ok (.bipush n, 2)) (hv : (Int8.ofInt n).toInt32 = v) (kk : WS X M (pc + 2) loc (.int v :: st)) : WS X M pc loc (st) := by
  obtain ⟨⟨l, D, cy, b, adK, adV⟩, p0, e, R, s, m, args, below, meth, c, Q, n0, nL⟩ := X
  obtain ⟨hx, hb, hml, hown, hts, hK, hlocks, hsz, hE, hfr, hlo, hce, hsl, hw⟩ := O
  intro H locs ls h0 hP hS hl
  exact lv_bipush hx hb hd hv (kk H locs ls h0 hP hS hl)
theorem s_sipush {X : CT} {cc : ByteArray} {own : String} {d lim w : Nat} (O : OKX X cc own d lim w) {M : MM} {pc : Nat} {loc : List (Nat × Value)} {st : List Value} {n : Int} {v : Int32} (hd : decode cc pc = .ok (.sipush n, 3)) (hv : (Int16.ofInt n).toInt32 = v) (kk : WS X M (pc + 3) loc (.int v :: st)) : WS X M pc loc (st) := by
  obtain ⟨⟨l, D, cy, b, adK, adV⟩, p0, e, R, s, m, args, below, meth, c, Q, n0, nL⟩ := X
  obtain ⟨hx, hb, hml, hown, hts, hK, hlocks, hsz, hE, hfr, hlo, hce, hsl, hw⟩ := O
  intro H locs ls h0 hP hS hl
  exact lv_sipush hx hb hd hv (kk H locs ls h0 hP hS hl)
theorem s_lconst {X : CT} {cc : ByteArray} {own : String} {d lim w : Nat} (O : OKX X cc own d lim w) {M : MM} {pc : Nat} {loc : List (Nat × Value)} {st : List Value} {n : Fin 2} {v : Int64} (hd : decode cc pc = .ok (.lconst n, 1)) (hv : Int64.ofNat (n : Nat) = v) (kk : WS X M (pc + 1) loc (.long v :: st)) : WS X M pc loc (st) := by
  obtain ⟨⟨l, D, cy, b, adK, adV⟩, p0, e, R, s, m, args, below, meth, c, Q, n0, nL⟩ := X
  obtain ⟨hx, hb, hml, hown, hts, hK, hlocks, hsz, hE, hfr, hlo, hce, hsl, hw⟩ := O
  intro H locs ls h0 hP hS hl
  exact lv_lconst hx hb hd hv (kk H locs ls h0 hP hS hl)
theorem s_ldc {X : CT} {cc : ByteArray} {own : String} {d lim w : Nat} (O : OKX X cc own d lim w) {M : MM} {pc : Nat} {loc : List (Nat × Value)} {st : List Value} {i : Nat} {v : Int32} (hd : decode cc pc = .ok (.ldc i, 2)) (hc : Cond.constant own i v ∈ tb) (kk : WS X M (pc + 2) loc (.int v :: st)) : WS X M pc loc (st) := by
  obtain ⟨⟨l, D, cy, b, adK, adV⟩, p0, e, R, s, m, args, below, meth, c, Q, n0, nL⟩ := X
  obtain ⟨hx, hb, hml, hown, hts, hK, hlocks, hsz, hE, hfr, hlo, hce, hsl, hw⟩ := O
  intro H locs ls h0 hP hS hl
  exact lv_ldc hx hb hown (hts _ hc) hd (kk H locs ls h0 hP hS hl)
theorem s_ldcw {X : CT} {cc : ByteArray} {own : String} {d lim w : Nat} (O : OKX X cc own d lim w) {M : MM} {pc : Nat} {loc : List (Nat × Value)} {st : List Value} {i : Nat} {v : Int32} (hd : decode cc pc = .ok (.ldc_w i, 3)) (hc : Cond.constant own i v ∈ tb) (kk : WS X M (pc + 3) loc (.int v :: st)) : WS X M pc loc (st) := by
  obtain ⟨⟨l, D, cy, b, adK, adV⟩, p0, e, R, s, m, args, below, meth, c, Q, n0, nL⟩ := X
  obtain ⟨hx, hb, hml, hown, hts, hK, hlocks, hsz, hE, hfr, hlo, hce, hsl, hw⟩ := O
  intro H locs ls h0 hP hS hl
  exact lv_ldcw hx hb hown (hts _ hc) hd (kk H locs ls h0 hP hS hl)
theorem s_ldc2 {X : CT} {cc : ByteArray} {own : String} {d lim w : Nat} (O : OKX X cc own d lim w) {M : MM} {pc : Nat} {loc : List (Nat × Value)} {st : List Value} {i : Nat} {v : Int64} (hd : decode cc pc = .ok (.ldc2_w i, 3)) (hc : Cond.constantLong own i v ∈ tb) (kk : WS X M (pc + 3) loc (.long v :: st)) : WS X M pc loc (st) := by
  obtain ⟨⟨l, D, cy, b, adK, adV⟩, p0, e, R, s, m, args, below, meth, c, Q, n0, nL⟩ := X
  obtain ⟨hx, hb, hml, hown, hts, hK, hlocks, hsz, hE, hfr, hlo, hce, hsl, hw⟩ := O
  intro H locs ls h0 hP hS hl
  exact lv_ldc2 hx hb hown (hts _ hc) hd (kk H locs ls h0 hP hS hl)
theorem s_iload_n {X : CT} {cc : ByteArray} {own : String} {d lim w : Nat} (O : OKX X cc own d lim w) {M : MM} {pc : Nat} {loc : List (Nat × Value)} {st : List Value} {k : Fin 4} {i : Nat} {x : Int32} (hd : decode cc pc = .ok (.iload_n k, 1)) (hi : (k : Nat) = i) (j : Nat) (hj : loc[j]? = some (i, .int x)) (kk : WS X M (pc + 1) loc (.int x :: st)) : WS X M pc loc (st) := by
  obtain ⟨⟨l, D, cy, b, adK, adV⟩, p0, e, R, s, m, args, below, meth, c, Q, n0, nL⟩ := X
  obtain ⟨hx, hb, hml, hown, hts, hK, hlocks, hsz, hE, hfr, hlo, hce, hsl, hw⟩ := O
  intro H locs ls h0 hP hS hl
  exact lv_iload_n hx hb hd hi (lv_at hl j hj) (kk H locs ls h0 hP hS hl)
theorem s_iload {X : CT} {cc : ByteArray} {own : String} {d lim w : Nat} (O : OKX X cc own d lim w) {M : MM} {pc : Nat} {loc : List (Nat × Value)} {st : List Value} {i : Nat} {x : Int32} (hd : decode cc pc = .ok (.iload i, 2)) (j : Nat) (hj : loc[j]? = some (i, .int x)) (kk : WS X M (pc + 2) loc (.int x :: st)) : WS X M pc loc (st) := by
  obtain ⟨⟨l, D, cy, b, adK, adV⟩, p0, e, R, s, m, args, below, meth, c, Q, n0, nL⟩ := X
  obtain ⟨hx, hb, hml, hown, hts, hK, hlocks, hsz, hE, hfr, hlo, hce, hsl, hw⟩ := O
  intro H locs ls h0 hP hS hl
  exact lv_iload hx hb hd (lv_at hl j hj) (kk H locs ls h0 hP hS hl)
theorem s_lload_n {X : CT} {cc : ByteArray} {own : String} {d lim w : Nat} (O : OKX X cc own d lim w) {M : MM} {pc : Nat} {loc : List (Nat × Value)} {st : List Value} {k : Fin 4} {i : Nat} {x : Int64} (hd : decode cc pc = .ok (.lload_n k, 1)) (hi : (k : Nat) = i) (j : Nat) (hj : loc[j]? = some (i, .long x)) (kk : WS X M (pc + 1) loc (.long x :: st)) : WS X M pc loc (st) := by
  obtain ⟨⟨l, D, cy, b, adK, adV⟩, p0, e, R, s, m, args, below, meth, c, Q, n0, nL⟩ := X
  obtain ⟨hx, hb, hml, hown, hts, hK, hlocks, hsz, hE, hfr, hlo, hce, hsl, hw⟩ := O
  intro H locs ls h0 hP hS hl
  exact lv_lload_n hx hb hd hi (lv_at hl j hj) (kk H locs ls h0 hP hS hl)
theorem s_lload {X : CT} {cc : ByteArray} {own : String} {d lim w : Nat} (O : OKX X cc own d lim w) {M : MM} {pc : Nat} {loc : List (Nat × Value)} {st : List Value} {i : Nat} {x : Int64} (hd : decode cc pc = .ok (.lload i, 2)) (j : Nat) (hj : loc[j]? = some (i, .long x)) (kk : WS X M (pc + 2) loc (.long x :: st)) : WS X M pc loc (st) := by
  obtain ⟨⟨l, D, cy, b, adK, adV⟩, p0, e, R, s, m, args, below, meth, c, Q, n0, nL⟩ := X
  obtain ⟨hx, hb, hml, hown, hts, hK, hlocks, hsz, hE, hfr, hlo, hce, hsl, hw⟩ := O
  intro H locs ls h0 hP hS hl
  exact lv_lload hx hb hd (lv_at hl j hj) (kk H locs ls h0 hP hS hl)
theorem s_aload_n {X : CT} {cc : ByteArray} {own : String} {d lim w : Nat} (O : OKX X cc own d lim w) {M : MM} {pc : Nat} {loc : List (Nat × Value)} {st : List Value} {k : Fin 4} {i x : Nat} (hd : decode cc pc = .ok (.aload_n k, 1)) (hi : (k : Nat) = i) (j : Nat) (hj : loc[j]? = some (i, rf X.1 x)) (kk : WS X M (pc + 1) loc (rf X.1 x :: st)) : WS X M pc loc (st) := by
  obtain ⟨⟨l, D, cy, b, adK, adV⟩, p0, e, R, s, m, args, below, meth, c, Q, n0, nL⟩ := X
  obtain ⟨hx, hb, hml, hown, hts, hK, hlocks, hsz, hE, hfr, hlo, hce, hsl, hw⟩ := O
  intro H locs ls h0 hP hS hl
  exact lv_aload_n hx hb hd hi (lv_at hl j hj) (kk H locs ls h0 hP hS hl)
theorem s_aload {X : CT} {cc : ByteArray} {own : String} {d lim w : Nat} (O : OKX X cc own d lim w) {M : MM} {pc : Nat} {loc : List (Nat × Value)} {st : List Value} {i x : Nat} (hd : decode cc pc = .ok (.aload i, 2)) (j : Nat) (hj : loc[j]? = some (i, rf X.1 x)) (kk : WS X M (pc + 2) loc (rf X.1 x :: st)) : WS X M pc loc (st) := by
  obtain ⟨⟨l, D, cy, b, adK, adV⟩, p0, e, R, s, m, args, below, meth, c, Q, n0, nL⟩ := X
  obtain ⟨hx, hb, hml, hown, hts, hK, hlocks, hsz, hE, hfr, hlo, hce, hsl, hw⟩ := O
  intro H locs ls h0 hP hS hl
  exact lv_aload hx hb hd (lv_at hl j hj) (kk H locs ls h0 hP hS hl)
theorem s_istore_n {X : CT} {cc : ByteArray} {own : String} {d lim w : Nat} (O : OKX X cc own d lim w) {M : MM} {pc : Nat} {loc : List (Nat × Value)} {st : List Value} {k : Fin 4} {i : Nat} {x : Int32} {loc' : List (Nat × Value)} (hd : decode cc pc = .ok (.istore_n k, 1)) (hi : (k : Nat) = i) (hn : i < w) (hlv : (i, .int x) :: loc.filter (fun q => !(q.1 == i) && !(q.1 + 1 == i && q.2.category == 2)) = loc') (kk : WS X M (pc + 1) loc' st) : WS X M pc loc (.int x :: st) := by
  obtain ⟨⟨l, D, cy, b, adK, adV⟩, p0, e, R, s, m, args, below, meth, c, Q, n0, nL⟩ := X
  obtain ⟨hx, hb, hml, hown, hts, hK, hlocks, hsz, hE, hfr, hlo, hce, hsl, hw⟩ := O
  intro H locs ls h0 hP hS hl
  exact lv_istore_n hx hb hd hi hl (hw ▸ hn) hlv (fun ls' hl' => kk H locs ls' h0 hP hS hl')
theorem s_istore {X : CT} {cc : ByteArray} {own : String} {d lim w : Nat} (O : OKX X cc own d lim w) {M : MM} {pc : Nat} {loc : List (Nat × Value)} {st : List Value} {i : Nat} {x : Int32} {loc' : List (Nat × Value)} (hd : decode cc pc = .ok (.istore i, 2)) (hn : i < w) (hlv : (i, .int x) :: loc.filter (fun q => !(q.1 == i) && !(q.1 + 1 == i && q.2.category == 2)) = loc') (kk : WS X M (pc + 2) loc' st) : WS X M pc loc (.int x :: st) := by
  obtain ⟨⟨l, D, cy, b, adK, adV⟩, p0, e, R, s, m, args, below, meth, c, Q, n0, nL⟩ := X
  obtain ⟨hx, hb, hml, hown, hts, hK, hlocks, hsz, hE, hfr, hlo, hce, hsl, hw⟩ := O
  intro H locs ls h0 hP hS hl
  exact lv_istore hx hb hd hl (hw ▸ hn) hlv (fun ls' hl' => kk H locs ls' h0 hP hS hl')
theorem s_lstore_n {X : CT} {cc : ByteArray} {own : String} {d lim w : Nat} (O : OKX X cc own d lim w) {M : MM} {pc : Nat} {loc : List (Nat × Value)} {st : List Value} {k : Fin 4} {i : Nat} {x : Int64} {loc' : List (Nat × Value)} (hd : decode cc pc = .ok (.lstore_n k, 1)) (hi : (k : Nat) = i) (hn : i + 1 < w) (hlv : (i, .long x) :: loc.filter (fun q => !(q.1 == i) && (!(q.1 == i + 1) && !(q.1 + 1 == i && q.2.category == 2))) = loc') (kk : WS X M (pc + 1) loc' st) : WS X M pc loc (.long x :: st) := by
  obtain ⟨⟨l, D, cy, b, adK, adV⟩, p0, e, R, s, m, args, below, meth, c, Q, n0, nL⟩ := X
  obtain ⟨hx, hb, hml, hown, hts, hK, hlocks, hsz, hE, hfr, hlo, hce, hsl, hw⟩ := O
  intro H locs ls h0 hP hS hl
  exact lv_lstore_n hx hb hd hi hl (hw ▸ hn) hlv (fun ls' hl' => kk H locs ls' h0 hP hS hl')
theorem s_lstore {X : CT} {cc : ByteArray} {own : String} {d lim w : Nat} (O : OKX X cc own d lim w) {M : MM} {pc : Nat} {loc : List (Nat × Value)} {st : List Value} {i : Nat} {x : Int64} {loc' : List (Nat × Value)} (hd : decode cc pc = .ok (.lstore i, 2)) (hn : i + 1 < w) (hlv : (i, .long x) :: loc.filter (fun q => !(q.1 == i) && (!(q.1 == i + 1) && !(q.1 + 1 == i && q.2.category == 2))) = loc') (kk : WS X M (pc + 2) loc' st) : WS X M pc loc (.long x :: st) := by
  obtain ⟨⟨l, D, cy, b, adK, adV⟩, p0, e, R, s, m, args, below, meth, c, Q, n0, nL⟩ := X
  obtain ⟨hx, hb, hml, hown, hts, hK, hlocks, hsz, hE, hfr, hlo, hce, hsl, hw⟩ := O
  intro H locs ls h0 hP hS hl
  exact lv_lstore hx hb hd hl (hw ▸ hn) hlv (fun ls' hl' => kk H locs ls' h0 hP hS hl')
theorem s_astore_n {X : CT} {cc : ByteArray} {own : String} {d lim w : Nat} (O : OKX X cc own d lim w) {M : MM} {pc : Nat} {loc : List (Nat × Value)} {st : List Value} {k : Fin 4} {i x : Nat} {loc' : List (Nat × Value)} (hd : decode cc pc = .ok (.astore_n k, 1)) (hi : (k : Nat) = i) (hn : i < w) (hlv : (i, rf X.1 x) :: loc.filter (fun q => !(q.1 == i) && !(q.1 + 1 == i && q.2.category == 2)) = loc') (kk : WS X M (pc + 1) loc' st) : WS X M pc loc (rf X.1 x :: st) := by
  obtain ⟨⟨l, D, cy, b, adK, adV⟩, p0, e, R, s, m, args, below, meth, c, Q, n0, nL⟩ := X
  obtain ⟨hx, hb, hml, hown, hts, hK, hlocks, hsz, hE, hfr, hlo, hce, hsl, hw⟩ := O
  intro H locs ls h0 hP hS hl
  exact lv_astore_n hx hb hd hi hl (hw ▸ hn) hlv (fun ls' hl' => kk H locs ls' h0 hP hS hl')
theorem s_astore {X : CT} {cc : ByteArray} {own : String} {d lim w : Nat} (O : OKX X cc own d lim w) {M : MM} {pc : Nat} {loc : List (Nat × Value)} {st : List Value} {i x : Nat} {loc' : List (Nat × Value)} (hd : decode cc pc = .ok (.astore i, 2)) (hn : i < w) (hlv : (i, rf X.1 x) :: loc.filter (fun q => !(q.1 == i) && !(q.1 + 1 == i && q.2.category == 2)) = loc') (kk : WS X M (pc + 2) loc' st) : WS X M pc loc (rf X.1 x :: st) := by
  obtain ⟨⟨l, D, cy, b, adK, adV⟩, p0, e, R, s, m, args, below, meth, c, Q, n0, nL⟩ := X
  obtain ⟨hx, hb, hml, hown, hts, hK, hlocks, hsz, hE, hfr, hlo, hce, hsl, hw⟩ := O
  intro H locs ls h0 hP hS hl
  exact lv_astore hx hb hd hl (hw ▸ hn) hlv (fun ls' hl' => kk H locs ls' h0 hP hS hl')
theorem s_iinc {X : CT} {cc : ByteArray} {own : String} {d lim w : Nat} (O : OKX X cc own d lim w) {M : MM} {pc : Nat} {loc : List (Nat × Value)} {st : List Value} {i : Nat} {n : Int} {x v : Int32} {loc' : List (Nat × Value)} (hd : decode cc pc = .ok (.iinc i n, 3)) (j : Nat) (hj : loc[j]? = some (i, .int x)) (hv : x + Int32.ofInt n = v) (hn : i < w) (hlv : (i, .int v) :: loc.filter (fun q => !(q.1 == i) && !(q.1 + 1 == i && q.2.category == 2)) = loc') (kk : WS X M (pc + 3) loc' st) : WS X M pc loc st := by
  obtain ⟨⟨l, D, cy, b, adK, adV⟩, p0, e, R, s, m, args, below, meth, c, Q, n0, nL⟩ := X
  obtain ⟨hx, hb, hml, hown, hts, hK, hlocks, hsz, hE, hfr, hlo, hce, hsl, hw⟩ := O
  intro H locs ls h0 hP hS hl
  exact lv_iinc hx hb hd hl hj hv (hw ▸ hn) hlv (fun ls' hl' => kk H locs ls' h0 hP hS hl')
theorem s_iadd {X : CT} {cc : ByteArray} {own : String} {d lim w : Nat} (O : OKX X cc own d lim w) {M : MM} {pc : Nat} {loc : List (Nat × Value)} {st : List Value} {x y : Int32} (hd : decode cc pc = .ok (.iadd, 1)) (kk : WS X M (pc + 1) loc (.int (x + y) :: st)) : WS X M pc loc (.int y :: .int x :: st) := by
  obtain ⟨⟨l, D, cy, b, adK, adV⟩, p0, e, R, s, m, args, below, meth, c, Q, n0, nL⟩ := X
  obtain ⟨hx, hb, hml, hown, hts, hK, hlocks, hsz, hE, hfr, hlo, hce, hsl, hw⟩ := O
  intro H locs ls h0 hP hS hl
  exact lv_iadd hx hb hd (kk H locs ls h0 hP hS hl)
theorem s_isub {X : CT} {cc : ByteArray} {own : String} {d lim w : Nat} (O : OKX X cc own d lim w) {M : MM} {pc : Nat} {loc : List (Nat × Value)} {st : List Value} {x y : Int32} (hd : decode cc pc = .ok (.isub, 1)) (kk : WS X M (pc + 1) loc (.int (x - y) :: st)) : WS X M pc loc (.int y :: .int x :: st) := by
  obtain ⟨⟨l, D, cy, b, adK, adV⟩, p0, e, R, s, m, args, below, meth, c, Q, n0, nL⟩ := X
  obtain ⟨hx, hb, hml, hown, hts, hK, hlocks, hsz, hE, hfr, hlo, hce, hsl, hw⟩ := O
  intro H locs ls h0 hP hS hl
  exact lv_isub hx hb hd (kk H locs ls h0 hP hS hl)
theorem s_imul {X : CT} {cc : ByteArray} {own : String} {d lim w : Nat} (O : OKX X cc own d lim w) {M : MM} {pc : Nat} {loc : List (Nat × Value)} {st : List Value} {x y : Int32} (hd : decode cc pc = .ok (.imul, 1)) (kk : WS X M (pc + 1) loc (.int (x * y) :: st)) : WS X M pc loc (.int y :: .int x :: st) := by
  obtain ⟨⟨l, D, cy, b, adK, adV⟩, p0, e, R, s, m, args, below, meth, c, Q, n0, nL⟩ := X
  obtain ⟨hx, hb, hml, hown, hts, hK, hlocks, hsz, hE, hfr, hlo, hce, hsl, hw⟩ := O
  intro H locs ls h0 hP hS hl
  exact lv_imul hx hb hd (kk H locs ls h0 hP hS hl)
theorem s_iand {X : CT} {cc : ByteArray} {own : String} {d lim w : Nat} (O : OKX X cc own d lim w) {M : MM} {pc : Nat} {loc : List (Nat × Value)} {st : List Value} {x y : Int32} (hd : decode cc pc = .ok (.iand, 1)) (kk : WS X M (pc + 1) loc (.int (x &&& y) :: st)) : WS X M pc loc (.int y :: .int x :: st) := by
  obtain ⟨⟨l, D, cy, b, adK, adV⟩, p0, e, R, s, m, args, below, meth, c, Q, n0, nL⟩ := X
  obtain ⟨hx, hb, hml, hown, hts, hK, hlocks, hsz, hE, hfr, hlo, hce, hsl, hw⟩ := O
  intro H locs ls h0 hP hS hl
  exact lv_iand hx hb hd (kk H locs ls h0 hP hS hl)
theorem s_ior {X : CT} {cc : ByteArray} {own : String} {d lim w : Nat} (O : OKX X cc own d lim w) {M : MM} {pc : Nat} {loc : List (Nat × Value)} {st : List Value} {x y : Int32} (hd : decode cc pc = .ok (.ior, 1)) (kk : WS X M (pc + 1) loc (.int (x ||| y) :: st)) : WS X M pc loc (.int y :: .int x :: st) := by
  obtain ⟨⟨l, D, cy, b, adK, adV⟩, p0, e, R, s, m, args, below, meth, c, Q, n0, nL⟩ := X
  obtain ⟨hx, hb, hml, hown, hts, hK, hlocks, hsz, hE, hfr, hlo, hce, hsl, hw⟩ := O
  intro H locs ls h0 hP hS hl
  exact lv_ior hx hb hd (kk H locs ls h0 hP hS hl)
theorem s_ixor {X : CT} {cc : ByteArray} {own : String} {d lim w : Nat} (O : OKX X cc own d lim w) {M : MM} {pc : Nat} {loc : List (Nat × Value)} {st : List Value} {x y : Int32} (hd : decode cc pc = .ok (.ixor, 1)) (kk : WS X M (pc + 1) loc (.int (x ^^^ y) :: st)) : WS X M pc loc (.int y :: .int x :: st) := by
  obtain ⟨⟨l, D, cy, b, adK, adV⟩, p0, e, R, s, m, args, below, meth, c, Q, n0, nL⟩ := X
  obtain ⟨hx, hb, hml, hown, hts, hK, hlocks, hsz, hE, hfr, hlo, hce, hsl, hw⟩ := O
  intro H locs ls h0 hP hS hl
  exact lv_ixor hx hb hd (kk H locs ls h0 hP hS hl)
theorem s_ishl {X : CT} {cc : ByteArray} {own : String} {d lim w : Nat} (O : OKX X cc own d lim w) {M : MM} {pc : Nat} {loc : List (Nat × Value)} {st : List Value} {x y : Int32} (hd : decode cc pc = .ok (.ishl, 1)) (kk : WS X M (pc + 1) loc (.int (x <<< (y &&& 31)) :: st)) : WS X M pc loc (.int y :: .int x :: st) := by
  obtain ⟨⟨l, D, cy, b, adK, adV⟩, p0, e, R, s, m, args, below, meth, c, Q, n0, nL⟩ := X
  obtain ⟨hx, hb, hml, hown, hts, hK, hlocks, hsz, hE, hfr, hlo, hce, hsl, hw⟩ := O
  intro H locs ls h0 hP hS hl
  exact lv_ishl hx hb hd (kk H locs ls h0 hP hS hl)
theorem s_ishr {X : CT} {cc : ByteArray} {own : String} {d lim w : Nat} (O : OKX X cc own d lim w) {M : MM} {pc : Nat} {loc : List (Nat × Value)} {st : List Value} {x y : Int32} (hd : decode cc pc = .ok (.ishr, 1)) (kk : WS X M (pc + 1) loc (.int (x >>> (y &&& 31)) :: st)) : WS X M pc loc (.int y :: .int x :: st) := by
  obtain ⟨⟨l, D, cy, b, adK, adV⟩, p0, e, R, s, m, args, below, meth, c, Q, n0, nL⟩ := X
  obtain ⟨hx, hb, hml, hown, hts, hK, hlocks, hsz, hE, hfr, hlo, hce, hsl, hw⟩ := O
  intro H locs ls h0 hP hS hl
  exact lv_ishr hx hb hd (kk H locs ls h0 hP hS hl)
theorem s_idiv {X : CT} {cc : ByteArray} {own : String} {d lim w : Nat} (O : OKX X cc own d lim w) {M : MM} {pc : Nat} {loc : List (Nat × Value)} {st : List Value} {x y : Int32} (hd : decode cc pc = .ok (.idiv, 1)) (hne : ¬ y = 0) (kk : WS X M (pc + 1) loc (.int (x / y) :: st)) : WS X M pc loc (.int y :: .int x :: st) := by
  obtain ⟨⟨l, D, cy, b, adK, adV⟩, p0, e, R, s, m, args, below, meth, c, Q, n0, nL⟩ := X
  obtain ⟨hx, hb, hml, hown, hts, hK, hlocks, hsz, hE, hfr, hlo, hce, hsl, hw⟩ := O
  intro H locs ls h0 hP hS hl
  exact lv_idiv hx hb hd hne (kk H locs ls h0 hP hS hl)
theorem s_irem {X : CT} {cc : ByteArray} {own : String} {d lim w : Nat} (O : OKX X cc own d lim w) {M : MM} {pc : Nat} {loc : List (Nat × Value)} {st : List Value} {x y : Int32} (hd : decode cc pc = .ok (.irem, 1)) (hne : ¬ y = 0) (kk : WS X M (pc + 1) loc (.int (x - x / y * y) :: st)) : WS X M pc loc (.int y :: .int x :: st) := by
  obtain ⟨⟨l, D, cy, b, adK, adV⟩, p0, e, R, s, m, args, below, meth, c, Q, n0, nL⟩ := X
  obtain ⟨hx, hb, hml, hown, hts, hK, hlocks, hsz, hE, hfr, hlo, hce, hsl, hw⟩ := O
  intro H locs ls h0 hP hS hl
  exact lv_irem hx hb hd hne (kk H locs ls h0 hP hS hl)
theorem s_ineg {X : CT} {cc : ByteArray} {own : String} {d lim w : Nat} (O : OKX X cc own d lim w) {M : MM} {pc : Nat} {loc : List (Nat × Value)} {st : List Value} {x : Int32} (hd : decode cc pc = .ok (.ineg, 1)) (kk : WS X M (pc + 1) loc (.int (-x) :: st)) : WS X M pc loc (.int x :: st) := by
  obtain ⟨⟨l, D, cy, b, adK, adV⟩, p0, e, R, s, m, args, below, meth, c, Q, n0, nL⟩ := X
  obtain ⟨hx, hb, hml, hown, hts, hK, hlocks, hsz, hE, hfr, hlo, hce, hsl, hw⟩ := O
  intro H locs ls h0 hP hS hl
  exact lv_ineg hx hb hd (kk H locs ls h0 hP hS hl)
theorem s_ladd {X : CT} {cc : ByteArray} {own : String} {d lim w : Nat} (O : OKX X cc own d lim w) {M : MM} {pc : Nat} {loc : List (Nat × Value)} {st : List Value} {x y : Int64} (hd : decode cc pc = .ok (.ladd, 1)) (kk : WS X M (pc + 1) loc (.long (x + y) :: st)) : WS X M pc loc (.long y :: .long x :: st) := by
  obtain ⟨⟨l, D, cy, b, adK, adV⟩, p0, e, R, s, m, args, below, meth, c, Q, n0, nL⟩ := X
  obtain ⟨hx, hb, hml, hown, hts, hK, hlocks, hsz, hE, hfr, hlo, hce, hsl, hw⟩ := O
  intro H locs ls h0 hP hS hl
  exact lv_ladd hx hb hd (kk H locs ls h0 hP hS hl)
theorem s_lsub {X : CT} {cc : ByteArray} {own : String} {d lim w : Nat} (O : OKX X cc own d lim w) {M : MM} {pc : Nat} {loc : List (Nat × Value)} {st : List Value} {x y : Int64} (hd : decode cc pc = .ok (.lsub, 1)) (kk : WS X M (pc + 1) loc (.long (x - y) :: st)) : WS X M pc loc (.long y :: .long x :: st) := by
  obtain ⟨⟨l, D, cy, b, adK, adV⟩, p0, e, R, s, m, args, below, meth, c, Q, n0, nL⟩ := X
  obtain ⟨hx, hb, hml, hown, hts, hK, hlocks, hsz, hE, hfr, hlo, hce, hsl, hw⟩ := O
  intro H locs ls h0 hP hS hl
  exact lv_lsub hx hb hd (kk H locs ls h0 hP hS hl)
theorem s_lmul {X : CT} {cc : ByteArray} {own : String} {d lim w : Nat} (O : OKX X cc own d lim w) {M : MM} {pc : Nat} {loc : List (Nat × Value)} {st : List Value} {x y : Int64} (hd : decode cc pc = .ok (.lmul, 1)) (kk : WS X M (pc + 1) loc (.long (x * y) :: st)) : WS X M pc loc (.long y :: .long x :: st) := by
  obtain ⟨⟨l, D, cy, b, adK, adV⟩, p0, e, R, s, m, args, below, meth, c, Q, n0, nL⟩ := X
  obtain ⟨hx, hb, hml, hown, hts, hK, hlocks, hsz, hE, hfr, hlo, hce, hsl, hw⟩ := O
  intro H locs ls h0 hP hS hl
  exact lv_lmul hx hb hd (kk H locs ls h0 hP hS hl)
theorem s_land {X : CT} {cc : ByteArray} {own : String} {d lim w : Nat} (O : OKX X cc own d lim w) {M : MM} {pc : Nat} {loc : List (Nat × Value)} {st : List Value} {x y : Int64} (hd : decode cc pc = .ok (.land, 1)) (kk : WS X M (pc + 1) loc (.long (x &&& y) :: st)) : WS X M pc loc (.long y :: .long x :: st) := by
  obtain ⟨⟨l, D, cy, b, adK, adV⟩, p0, e, R, s, m, args, below, meth, c, Q, n0, nL⟩ := X
  obtain ⟨hx, hb, hml, hown, hts, hK, hlocks, hsz, hE, hfr, hlo, hce, hsl, hw⟩ := O
  intro H locs ls h0 hP hS hl
  exact lv_land hx hb hd (kk H locs ls h0 hP hS hl)
theorem s_lor {X : CT} {cc : ByteArray} {own : String} {d lim w : Nat} (O : OKX X cc own d lim w) {M : MM} {pc : Nat} {loc : List (Nat × Value)} {st : List Value} {x y : Int64} (hd : decode cc pc = .ok (.lor, 1)) (kk : WS X M (pc + 1) loc (.long (x ||| y) :: st)) : WS X M pc loc (.long y :: .long x :: st) := by
  obtain ⟨⟨l, D, cy, b, adK, adV⟩, p0, e, R, s, m, args, below, meth, c, Q, n0, nL⟩ := X
  obtain ⟨hx, hb, hml, hown, hts, hK, hlocks, hsz, hE, hfr, hlo, hce, hsl, hw⟩ := O
  intro H locs ls h0 hP hS hl
  exact lv_lor hx hb hd (kk H locs ls h0 hP hS hl)
theorem s_i2l {X : CT} {cc : ByteArray} {own : String} {d lim w : Nat} (O : OKX X cc own d lim w) {M : MM} {pc : Nat} {loc : List (Nat × Value)} {st : List Value} {x : Int32} (hd : decode cc pc = .ok (.i2l, 1)) (kk : WS X M (pc + 1) loc (.long x.toInt64 :: st)) : WS X M pc loc (.int x :: st) := by
  obtain ⟨⟨l, D, cy, b, adK, adV⟩, p0, e, R, s, m, args, below, meth, c, Q, n0, nL⟩ := X
  obtain ⟨hx, hb, hml, hown, hts, hK, hlocks, hsz, hE, hfr, hlo, hce, hsl, hw⟩ := O
  intro H locs ls h0 hP hS hl
  exact lv_i2l hx hb hd rfl (kk H locs ls h0 hP hS hl)
theorem s_l2i {X : CT} {cc : ByteArray} {own : String} {d lim w : Nat} (O : OKX X cc own d lim w) {M : MM} {pc : Nat} {loc : List (Nat × Value)} {st : List Value} {x : Int64} (hd : decode cc pc = .ok (.l2i, 1)) (kk : WS X M (pc + 1) loc (.int x.toInt32 :: st)) : WS X M pc loc (.long x :: st) := by
  obtain ⟨⟨l, D, cy, b, adK, adV⟩, p0, e, R, s, m, args, below, meth, c, Q, n0, nL⟩ := X
  obtain ⟨hx, hb, hml, hown, hts, hK, hlocks, hsz, hE, hfr, hlo, hce, hsl, hw⟩ := O
  intro H locs ls h0 hP hS hl
  exact lv_l2i hx hb hd rfl (kk H locs ls h0 hP hS hl)
theorem s_iushr {X : CT} {cc : ByteArray} {own : String} {d lim w : Nat} (O : OKX X cc own d lim w) {M : MM} {pc : Nat} {loc : List (Nat × Value)} {st : List Value} {x y : Int32} (hd : decode cc pc = .ok (.iushr, 1)) (kk : WS X M (pc + 1) loc (.int (x.toUInt32 >>> (y.toUInt32 &&& Int32.toUInt32 31)).toInt32 :: st)) : WS X M pc loc (.int y :: .int x :: st) := by
  obtain ⟨⟨l, D, cy, b, adK, adV⟩, p0, e, R, s, m, args, below, meth, c, Q, n0, nL⟩ := X
  obtain ⟨hx, hb, hml, hown, hts, hK, hlocks, hsz, hE, hfr, hlo, hce, hsl, hw⟩ := O
  intro H locs ls h0 hP hS hl
  exact lv_iushr hx hb hd rfl (kk H locs ls h0 hP hS hl)
theorem s_lushr {X : CT} {cc : ByteArray} {own : String} {d lim w : Nat} (O : OKX X cc own d lim w) {M : MM} {pc : Nat} {loc : List (Nat × Value)} {st : List Value} {x : Int64} {y : Int32} (hd : decode cc pc = .ok (.lushr, 1)) (kk : WS X M (pc + 1) loc (.long (x.toUInt64 >>> (y.toInt64.toUInt64 &&& Int64.toUInt64 63)).toInt64 :: st)) : WS X M pc loc (.int y :: .long x :: st) := by
  obtain ⟨⟨l, D, cy, b, adK, adV⟩, p0, e, R, s, m, args, below, meth, c, Q, n0, nL⟩ := X
  obtain ⟨hx, hb, hml, hown, hts, hK, hlocks, hsz, hE, hfr, hlo, hce, hsl, hw⟩ := O
  intro H locs ls h0 hP hS hl
  exact lv_lushr hx hb hd rfl (kk H locs ls h0 hP hS hl)
theorem s_lshl {X : CT} {cc : ByteArray} {own : String} {d lim w : Nat} (O : OKX X cc own d lim w) {M : MM} {pc : Nat} {loc : List (Nat × Value)} {st : List Value} {x : Int64} {y : Int32} (hd : decode cc pc = .ok (.lshl, 1)) (kk : WS X M (pc + 1) loc (.long (x <<< (y.toInt64 &&& 63)) :: st)) : WS X M pc loc (.int y :: .long x :: st) := by
  obtain ⟨⟨l, D, cy, b, adK, adV⟩, p0, e, R, s, m, args, below, meth, c, Q, n0, nL⟩ := X
  obtain ⟨hx, hb, hml, hown, hts, hK, hlocks, hsz, hE, hfr, hlo, hce, hsl, hw⟩ := O
  intro H locs ls h0 hP hS hl
  exact lv_lshl hx hb hd rfl (kk H locs ls h0 hP hS hl)
theorem s_lshr {X : CT} {cc : ByteArray} {own : String} {d lim w : Nat} (O : OKX X cc own d lim w) {M : MM} {pc : Nat} {loc : List (Nat × Value)} {st : List Value} {x : Int64} {y : Int32} (hd : decode cc pc = .ok (.lshr, 1)) (kk : WS X M (pc + 1) loc (.long (x >>> (y.toInt64 &&& 63)) :: st)) : WS X M pc loc (.int y :: .long x :: st) := by
  obtain ⟨⟨l, D, cy, b, adK, adV⟩, p0, e, R, s, m, args, below, meth, c, Q, n0, nL⟩ := X
  obtain ⟨hx, hb, hml, hown, hts, hK, hlocks, hsz, hE, hfr, hlo, hce, hsl, hw⟩ := O
  intro H locs ls h0 hP hS hl
  exact lv_lshr hx hb hd rfl (kk H locs ls h0 hP hS hl)
theorem s_lcmp {X : CT} {cc : ByteArray} {own : String} {d lim w : Nat} (O : OKX X cc own d lim w) {M : MM} {pc : Nat} {loc : List (Nat × Value)} {st : List Value} {x y : Int64} (hd : decode cc pc = .ok (.lcmp, 1)) (kk : WS X M (pc + 1) loc (.int (lg_cmp x y) :: st)) : WS X M pc loc (.long y :: .long x :: st) := by
  obtain ⟨⟨l, D, cy, b, adK, adV⟩, p0, e, R, s, m, args, below, meth, c, Q, n0, nL⟩ := X
  obtain ⟨hx, hb, hml, hown, hts, hK, hlocks, hsz, hE, hfr, hlo, hce, hsl, hw⟩ := O
  intro H locs ls h0 hP hS hl
  exact W.lcmp hx hb hd (kk H locs ls h0 hP hS hl)
theorem s_dup {X : CT} {cc : ByteArray} {own : String} {d lim w : Nat} (O : OKX X cc own d lim w) {M : MM} {pc : Nat} {loc : List (Nat × Value)} {st : List Value} {va : Value} (hd : decode cc pc = .ok (.dup, 1)) (hva : va.category = 1) (kk : WS X M (pc + 1) loc (va :: va :: st)) : WS X M pc loc (va :: st) := by
  obtain ⟨⟨l, D, cy, b, adK, adV⟩, p0, e, R, s, m, args, below, meth, c, Q, n0, nL⟩ := X
  obtain ⟨hx, hb, hml, hown, hts, hK, hlocks, hsz, hE, hfr, hlo, hce, hsl, hw⟩ := O
  intro H locs ls h0 hP hS hl
  exact lv_dup hx hb hd hva (kk H locs ls h0 hP hS hl)
theorem s_pop {X : CT} {cc : ByteArray} {own : String} {d lim w : Nat} (O : OKX X cc own d lim w) {M : MM} {pc : Nat} {loc : List (Nat × Value)} {st : List Value} {va : Value} (hd : decode cc pc = .ok (.pop, 1)) (hva : va.category = 1) (kk : WS X M (pc + 1) loc (st)) : WS X M pc loc (va :: st) := by
  obtain ⟨⟨l, D, cy, b, adK, adV⟩, p0, e, R, s, m, args, below, meth, c, Q, n0, nL⟩ := X
  obtain ⟨hx, hb, hml, hown, hts, hK, hlocks, hsz, hE, hfr, hlo, hce, hsl, hw⟩ := O
  intro H locs ls h0 hP hS hl
  exact lv_pop hx hb hd hva (kk H locs ls h0 hP hS hl)
theorem s_dup2 {X : CT} {cc : ByteArray} {own : String} {d lim w : Nat} (O : OKX X cc own d lim w) {M : MM} {pc : Nat} {loc : List (Nat × Value)} {st : List Value} {va vb : Value} (hd : decode cc pc = .ok (.dup2, 1)) (hva : va.category = 1) (hvb : vb.category = 1) (kk : WS X M (pc + 1) loc (va :: vb :: va :: vb :: st)) : WS X M pc loc (va :: vb :: st) := by
  obtain ⟨⟨l, D, cy, b, adK, adV⟩, p0, e, R, s, m, args, below, meth, c, Q, n0, nL⟩ := X
  obtain ⟨hx, hb, hml, hown, hts, hK, hlocks, hsz, hE, hfr, hlo, hce, hsl, hw⟩ := O
  intro H locs ls h0 hP hS hl
  exact lv_dup2_11 hx hb hd hva hvb (kk H locs ls h0 hP hS hl)
theorem s_if_eq {X : CT} {cc : ByteArray} {own : String} {d lim w : Nat} (O : OKX X cc own d lim w) {M : MM} {pc : Nat} {loc : List (Nat × Value)} {st : List Value} {x : Int32} {off : Int} {tgt : Nat} (hd : decode cc pc = .ok (.ifCond .eq off, 3)) (ht : (pc : Int) + off = (tgt : Int)) (kt : x = 0 → WS X M tgt loc st) (kf : ¬ x = 0 → WS X M (pc + 3) loc st) : WS X M pc loc (.int x :: st) := by
  obtain ⟨⟨l, D, cy, b, adK, adV⟩, p0, e, R, s, m, args, below, meth, c, Q, n0, nL⟩ := X
  obtain ⟨hx, hb, hml, hown, hts, hK, hlocks, hsz, hE, hfr, hlo, hce, hsl, hw⟩ := O
  intro H locs ls h0 hP hS hl
  exact lv_if_eq hx hb hd ht (fun q => kt q H locs ls h0 hP hS hl) (fun q => kf q H locs ls h0 hP hS hl)
theorem s_if_ne {X : CT} {cc : ByteArray} {own : String} {d lim w : Nat} (O : OKX X cc own d lim w) {M : MM} {pc : Nat} {loc : List (Nat × Value)} {st : List Value} {x : Int32} {off : Int} {tgt : Nat} (hd : decode cc pc = .ok (.ifCond .ne off, 3)) (ht : (pc : Int) + off = (tgt : Int)) (kt : ¬ x = 0 → WS X M tgt loc st) (kf : x = 0 → WS X M (pc + 3) loc st) : WS X M pc loc (.int x :: st) := by
  obtain ⟨⟨l, D, cy, b, adK, adV⟩, p0, e, R, s, m, args, below, meth, c, Q, n0, nL⟩ := X
  obtain ⟨hx, hb, hml, hown, hts, hK, hlocks, hsz, hE, hfr, hlo, hce, hsl, hw⟩ := O
  intro H locs ls h0 hP hS hl
  exact lv_if_ne hx hb hd ht (fun q => kt q H locs ls h0 hP hS hl) (fun q => kf q H locs ls h0 hP hS hl)
theorem s_if_lt {X : CT} {cc : ByteArray} {own : String} {d lim w : Nat} (O : OKX X cc own d lim w) {M : MM} {pc : Nat} {loc : List (Nat × Value)} {st : List Value} {x : Int32} {off : Int} {tgt : Nat} (hd : decode cc pc = .ok (.ifCond .lt off, 3)) (ht : (pc : Int) + off = (tgt : Int)) (kt : x < 0 → WS X M tgt loc st) (kf : ¬ x < 0 → WS X M (pc + 3) loc st) : WS X M pc loc (.int x :: st) := by
  obtain ⟨⟨l, D, cy, b, adK, adV⟩, p0, e, R, s, m, args, below, meth, c, Q, n0, nL⟩ := X
  obtain ⟨hx, hb, hml, hown, hts, hK, hlocks, hsz, hE, hfr, hlo, hce, hsl, hw⟩ := O
  intro H locs ls h0 hP hS hl
  exact lv_if_lt hx hb hd ht (fun q => kt q H locs ls h0 hP hS hl) (fun q => kf q H locs ls h0 hP hS hl)
theorem s_if_ge {X : CT} {cc : ByteArray} {own : String} {d lim w : Nat} (O : OKX X cc own d lim w) {M : MM} {pc : Nat} {loc : List (Nat × Value)} {st : List Value} {x : Int32} {off : Int} {tgt : Nat} (hd : decode cc pc = .ok (.ifCond .ge off, 3)) (ht : (pc : Int) + off = (tgt : Int)) (kt : 0 ≤ x → WS X M tgt loc st) (kf : ¬ 0 ≤ x → WS X M (pc + 3) loc st) : WS X M pc loc (.int x :: st) := by
  obtain ⟨⟨l, D, cy, b, adK, adV⟩, p0, e, R, s, m, args, below, meth, c, Q, n0, nL⟩ := X
  obtain ⟨hx, hb, hml, hown, hts, hK, hlocks, hsz, hE, hfr, hlo, hce, hsl, hw⟩ := O
  intro H locs ls h0 hP hS hl
  exact lv_if_ge hx hb hd ht (fun q => kt q H locs ls h0 hP hS hl) (fun q => kf q H locs ls h0 hP hS hl)
theorem s_if_gt {X : CT} {cc : ByteArray} {own : String} {d lim w : Nat} (O : OKX X cc own d lim w) {M : MM} {pc : Nat} {loc : List (Nat × Value)} {st : List Value} {x : Int32} {off : Int} {tgt : Nat} (hd : decode cc pc = .ok (.ifCond .gt off, 3)) (ht : (pc : Int) + off = (tgt : Int)) (kt : 0 < x → WS X M tgt loc st) (kf : ¬ 0 < x → WS X M (pc + 3) loc st) : WS X M pc loc (.int x :: st) := by
  obtain ⟨⟨l, D, cy, b, adK, adV⟩, p0, e, R, s, m, args, below, meth, c, Q, n0, nL⟩ := X
  obtain ⟨hx, hb, hml, hown, hts, hK, hlocks, hsz, hE, hfr, hlo, hce, hsl, hw⟩ := O
  intro H locs ls h0 hP hS hl
  exact lv_if_gt hx hb hd ht (fun q => kt q H locs ls h0 hP hS hl) (fun q => kf q H locs ls h0 hP hS hl)
theorem s_if_le {X : CT} {cc : ByteArray} {own : String} {d lim w : Nat} (O : OKX X cc own d lim w) {M : MM} {pc : Nat} {loc : List (Nat × Value)} {st : List Value} {x : Int32} {off : Int} {tgt : Nat} (hd : decode cc pc = .ok (.ifCond .le off, 3)) (ht : (pc : Int) + off = (tgt : Int)) (kt : x ≤ 0 → WS X M tgt loc st) (kf : ¬ x ≤ 0 → WS X M (pc + 3) loc st) : WS X M pc loc (.int x :: st) := by
  obtain ⟨⟨l, D, cy, b, adK, adV⟩, p0, e, R, s, m, args, below, meth, c, Q, n0, nL⟩ := X
  obtain ⟨hx, hb, hml, hown, hts, hK, hlocks, hsz, hE, hfr, hlo, hce, hsl, hw⟩ := O
  intro H locs ls h0 hP hS hl
  exact lv_if_le hx hb hd ht (fun q => kt q H locs ls h0 hP hS hl) (fun q => kf q H locs ls h0 hP hS hl)
theorem s_icmp_eq {X : CT} {cc : ByteArray} {own : String} {d lim w : Nat} (O : OKX X cc own d lim w) {M : MM} {pc : Nat} {loc : List (Nat × Value)} {st : List Value} {x y : Int32} {off : Int} {tgt : Nat} (hd : decode cc pc = .ok (.if_icmp .eq off, 3)) (ht : (pc : Int) + off = (tgt : Int)) (kt : x = y → WS X M tgt loc st) (kf : ¬ x = y → WS X M (pc + 3) loc st) : WS X M pc loc (.int y :: .int x :: st) := by
  obtain ⟨⟨l, D, cy, b, adK, adV⟩, p0, e, R, s, m, args, below, meth, c, Q, n0, nL⟩ := X
  obtain ⟨hx, hb, hml, hown, hts, hK, hlocks, hsz, hE, hfr, hlo, hce, hsl, hw⟩ := O
  intro H locs ls h0 hP hS hl
  exact lv_icmp_eq hx hb hd ht (fun q => kt q H locs ls h0 hP hS hl) (fun q => kf q H locs ls h0 hP hS hl)
theorem s_icmp_ne {X : CT} {cc : ByteArray} {own : String} {d lim w : Nat} (O : OKX X cc own d lim w) {M : MM} {pc : Nat} {loc : List (Nat × Value)} {st : List Value} {x y : Int32} {off : Int} {tgt : Nat} (hd : decode cc pc = .ok (.if_icmp .ne off, 3)) (ht : (pc : Int) + off = (tgt : Int)) (kt : ¬ x = y → WS X M tgt loc st) (kf : x = y → WS X M (pc + 3) loc st) : WS X M pc loc (.int y :: .int x :: st) := by
  obtain ⟨⟨l, D, cy, b, adK, adV⟩, p0, e, R, s, m, args, below, meth, c, Q, n0, nL⟩ := X
  obtain ⟨hx, hb, hml, hown, hts, hK, hlocks, hsz, hE, hfr, hlo, hce, hsl, hw⟩ := O
  intro H locs ls h0 hP hS hl
  exact lv_icmp_ne hx hb hd ht (fun q => kt q H locs ls h0 hP hS hl) (fun q => kf q H locs ls h0 hP hS hl)
theorem s_icmp_lt {X : CT} {cc : ByteArray} {own : String} {d lim w : Nat} (O : OKX X cc own d lim w) {M : MM} {pc : Nat} {loc : List (Nat × Value)} {st : List Value} {x y : Int32} {off : Int} {tgt : Nat} (hd : decode cc pc = .ok (.if_icmp .lt off, 3)) (ht : (pc : Int) + off = (tgt : Int)) (kt : x < y → WS X M tgt loc st) (kf : ¬ x < y → WS X M (pc + 3) loc st) : WS X M pc loc (.int y :: .int x :: st) := by
  obtain ⟨⟨l, D, cy, b, adK, adV⟩, p0, e, R, s, m, args, below, meth, c, Q, n0, nL⟩ := X
  obtain ⟨hx, hb, hml, hown, hts, hK, hlocks, hsz, hE, hfr, hlo, hce, hsl, hw⟩ := O
  intro H locs ls h0 hP hS hl
  exact lv_icmp_lt hx hb hd ht (fun q => kt q H locs ls h0 hP hS hl) (fun q => kf q H locs ls h0 hP hS hl)
theorem s_icmp_ge {X : CT} {cc : ByteArray} {own : String} {d lim w : Nat} (O : OKX X cc own d lim w) {M : MM} {pc : Nat} {loc : List (Nat × Value)} {st : List Value} {x y : Int32} {off : Int} {tgt : Nat} (hd : decode cc pc = .ok (.if_icmp .ge off, 3)) (ht : (pc : Int) + off = (tgt : Int)) (kt : y ≤ x → WS X M tgt loc st) (kf : ¬ y ≤ x → WS X M (pc + 3) loc st) : WS X M pc loc (.int y :: .int x :: st) := by
  obtain ⟨⟨l, D, cy, b, adK, adV⟩, p0, e, R, s, m, args, below, meth, c, Q, n0, nL⟩ := X
  obtain ⟨hx, hb, hml, hown, hts, hK, hlocks, hsz, hE, hfr, hlo, hce, hsl, hw⟩ := O
  intro H locs ls h0 hP hS hl
  exact lv_icmp_ge hx hb hd ht (fun q => kt q H locs ls h0 hP hS hl) (fun q => kf q H locs ls h0 hP hS hl)
theorem s_icmp_gt {X : CT} {cc : ByteArray} {own : String} {d lim w : Nat} (O : OKX X cc own d lim w) {M : MM} {pc : Nat} {loc : List (Nat × Value)} {st : List Value} {x y : Int32} {off : Int} {tgt : Nat} (hd : decode cc pc = .ok (.if_icmp .gt off, 3)) (ht : (pc : Int) + off = (tgt : Int)) (kt : y < x → WS X M tgt loc st) (kf : ¬ y < x → WS X M (pc + 3) loc st) : WS X M pc loc (.int y :: .int x :: st) := by
  obtain ⟨⟨l, D, cy, b, adK, adV⟩, p0, e, R, s, m, args, below, meth, c, Q, n0, nL⟩ := X
  obtain ⟨hx, hb, hml, hown, hts, hK, hlocks, hsz, hE, hfr, hlo, hce, hsl, hw⟩ := O
  intro H locs ls h0 hP hS hl
  exact lv_icmp_gt hx hb hd ht (fun q => kt q H locs ls h0 hP hS hl) (fun q => kf q H locs ls h0 hP hS hl)
theorem s_icmp_le {X : CT} {cc : ByteArray} {own : String} {d lim w : Nat} (O : OKX X cc own d lim w) {M : MM} {pc : Nat} {loc : List (Nat × Value)} {st : List Value} {x y : Int32} {off : Int} {tgt : Nat} (hd : decode cc pc = .ok (.if_icmp .le off, 3)) (ht : (pc : Int) + off = (tgt : Int)) (kt : x ≤ y → WS X M tgt loc st) (kf : ¬ x ≤ y → WS X M (pc + 3) loc st) : WS X M pc loc (.int y :: .int x :: st) := by
  obtain ⟨⟨l, D, cy, b, adK, adV⟩, p0, e, R, s, m, args, below, meth, c, Q, n0, nL⟩ := X
  obtain ⟨hx, hb, hml, hown, hts, hK, hlocks, hsz, hE, hfr, hlo, hce, hsl, hw⟩ := O
  intro H locs ls h0 hP hS hl
  exact lv_icmp_le hx hb hd ht (fun q => kt q H locs ls h0 hP hS hl) (fun q => kf q H locs ls h0 hP hS hl)
theorem s_goto {X : CT} {cc : ByteArray} {own : String} {d lim w : Nat} (O : OKX X cc own d lim w) {M : MM} {pc : Nat} {loc : List (Nat × Value)} {st : List Value} {off : Int} {tgt : Nat} (hd : decode cc pc = .ok (.goto off, 3)) (ht : (pc : Int) + off = (tgt : Int)) (kk : WS X M tgt loc st) : WS X M pc loc st := by
  obtain ⟨⟨l, D, cy, b, adK, adV⟩, p0, e, R, s, m, args, below, meth, c, Q, n0, nL⟩ := X
  obtain ⟨hx, hb, hml, hown, hts, hK, hlocks, hsz, hE, hfr, hlo, hce, hsl, hw⟩ := O
  intro H locs ls h0 hP hS hl
  exact lv_goto hx hb hd ht (kk H locs ls h0 hP hS hl)
theorem s_tabIn {X : CT} {cc : ByteArray} {own : String} {d lim w : Nat} (O : OKX X cc own d lim w) {M : MM} {pc : Nat} {loc : List (Nat × Value)} {st : List Value} {dflt lo hi : Int} {offs : Array Int} {len : Nat} {x : Int32} {off : Int} {tgt : Nat} (hd : decode cc pc = .ok (.tableswitch dflt lo hi offs, len)) (h1 : ¬ x.toInt < lo) (h2 : ¬ hi < x.toInt) (ho : offs[(x.toInt - lo).toNat]? = some off) (ht : (pc : Int) + off = (tgt : Int)) (kk : WS X M tgt loc st) : WS X M pc loc (.int x :: st) := by
  obtain ⟨⟨l, D, cy, b, adK, adV⟩, p0, e, R, s, m, args, below, meth, c, Q, n0, nL⟩ := X
  obtain ⟨hx, hb, hml, hown, hts, hK, hlocks, hsz, hE, hfr, hlo, hce, hsl, hw⟩ := O
  intro H locs ls h0 hP hS hl
  exact lv_tableIn hx hb hd h1 h2 ho ht (kk H locs ls h0 hP hS hl)
theorem s_tabOut {X : CT} {cc : ByteArray} {own : String} {d lim w : Nat} (O : OKX X cc own d lim w) {M : MM} {pc : Nat} {loc : List (Nat × Value)} {st : List Value} {dflt lo hi : Int} {offs : Array Int} {len : Nat} {x : Int32} {tgt : Nat} (hd : decode cc pc = .ok (.tableswitch dflt lo hi offs, len)) (h1 : x.toInt < lo ∨ hi < x.toInt) (ht : (pc : Int) + dflt = (tgt : Int)) (kk : WS X M tgt loc st) : WS X M pc loc (.int x :: st) := by
  obtain ⟨⟨l, D, cy, b, adK, adV⟩, p0, e, R, s, m, args, below, meth, c, Q, n0, nL⟩ := X
  obtain ⟨hx, hb, hml, hown, hts, hK, hlocks, hsz, hE, hfr, hlo, hce, hsl, hw⟩ := O
  intro H locs ls h0 hP hS hl
  exact lv_tableOut hx hb hd h1 ht (kk H locs ls h0 hP hS hl)
theorem s_sub {X : CT} {cc : ByteArray} {own : String} {d lim w : Nat} (O : OKX X cc own d lim w) {M : MM} {pc : Nat} {loc : List (Nat × Value)} {st : List Value} (ks : List Nat) {loc' : List (Nat × Value)} (h : lv_pick loc ks = loc') (kk : WS X M pc loc' st) : WS X M pc loc st := by
  obtain ⟨⟨l, D, cy, b, adK, adV⟩, p0, e, R, s, m, args, below, meth, c, Q, n0, nL⟩ := X
  obtain ⟨hx, hb, hml, hown, hts, hK, hlocks, hsz, hE, hfr, hlo, hce, hsl, hw⟩ := O
  intro H locs ls h0 hP hS hl
  exact kk H locs ls h0 hP hS (lv_sub hl ks h)
/-- what the tables give of a class -/
def KCok (ci : Nat) (C : String) (T : u_T) (N : Nat) (ty : Nat → FieldType) : Prop := ci < 8 ∧ vwCl[ci]? = some (C, T, N) ∧ (∀ w ∈ u_ws C T N, w ∈ tb) ∧ (∀ k, k < N → parseFieldDescriptor (T k).2.2.1 = some (ty k)) ∧ (∀ a, a < N → ∀ b, b < N → a ≠ b → (T a).2.1 ≠ (T b).2.1) ∧ (fl ci).length = N ∧ (∀ k, k < N → (T k).1 = C)
theorem kc0 : KCok 0 RX0 TX0 3 tyX0 := ⟨by decide, rfl, by decide +kernel, tyX0_ok, nmX0, rfl, by decide +kernel⟩
theorem kc1 : KCok 1 RX1 TX1 14 tyX1 := ⟨by decide, rfl, by decide +kernel, tyX1_ok, nmX1, rfl, by decide +kernel⟩
theorem kc2 : KCok 2 RX2 TX2 2 tyX2 := ⟨by decide, rfl, by decide +kernel, tyX2_ok, nmX2, rfl, by decide +kernel⟩
theorem kc3 : KCok 3 RX3 TX3 6 tyX3 := ⟨by decide, rfl, by decide +kernel, tyX3_ok, nmX3, rfl, by decide +kernel⟩
theorem kc4 : KCok 4 RX4 TX4 4 tyX4 := ⟨by decide, rfl, by decide +kernel, tyX4_ok, nmX4, rfl, by decide +kernel⟩
theorem kc5 : KCok 5 RX5 TX5 5 tyX5 := ⟨by decide, rfl, by decide +kernel, tyX5_ok, nmX5, rfl, by decide +kernel⟩
theorem kc6 : KCok 6 RX6 TX6 7 tyX6 := ⟨by decide, rfl, by decide +kernel, tyX6_ok, nmX6, rfl, by decide +kernel⟩
theorem kc7 : KCok 7 RX7 TX7 18 tyX7 := ⟨by decide, rfl, by decide +kernel, tyX7_ok, nmX7, rfl, by decide +kernel⟩
theorem mapIdx_at {α β : Type} {f : Nat → α → β} {l : List α} {k : Nat} {t : α} (h : l[k]? = some t) : (l.mapIdx f)[k]? = some (f k t) := by
  simp [h]
theorem s_getI {X : CT} {cc : ByteArray} {own : String} {d lim w : Nat} (O : OKX X cc own d lim w) {M : MM} {pc : Nat} {loc : List (Nat × Value)} {st : List Value} {i p : Nat} {v : Int32} {ci k : Nat} {C : String} {T : u_T} {N : Nat} {ty : Nat → FieldType} (HK : KCok ci C T N ty) (ht : (fl ci)[k]? = some 0) (hlk : Cond.fieldLink own i C (T k).2.1 (T k).2.2.1 ∈ tb) (hv : fI M p ci k = some v) (hd : decode cc pc = .ok (.getfield i, 3)) (kk : WS X M (pc + 3) loc (.int v :: st)) : WS X M pc loc (rf X.1 p :: st) := by
  obtain ⟨⟨l, D, cy, b, adK, adV⟩, p0, e, R, s, m, args, below, meth, c, Q, n0, nL⟩ := X
  obtain ⟨hx, hb, hml, hown, hts, hK, hlocks, hsz, hE, hfr, hlo, hce, hsl, hw⟩ := O
  intro H locs ls h0 hP hS hl
  obtain ⟨hc8, hcl, hin, hty, hnm, hfl, hdecl⟩ := HK
  obtain ⟨⟨hp, hkd⟩, hv⟩ := gd hv
  have hkN : k < N := by rw [← hfl]; exact (List.getElem?_eq_some_iff.mp ht).1
  refine va_get (D := D) (ci := ci) (C := C) (T := T) (N := N) (fs := (fl ci).mapIdx (fun j t => cv b M p t j)) hx hb hts hin hown hK hP p ((wl_get hp).trans (by rw [cel_obj hkd hc8])) hcl k hkN (hts _ hlk) (fun _ h9 => by rw [hdecl k hkN] at h9; exact h9) (mapIdx_at ht) hd ?_
  cases hv
  exact kk H locs ls h0 hP hS hl
theorem s_getJ {X : CT} {cc : ByteArray} {own : String} {d lim w : Nat} (O : OKX X cc own d lim w) {M : MM} {pc : Nat} {loc : List (Nat × Value)} {st : List Value} {i p : Nat} {v : Int64} {ci k : Nat} {C : String} {T : u_T} {N : Nat} {ty : Nat → FieldType} (HK : KCok ci C T N ty) (ht : (fl ci)[k]? = some 1) (hlk : Cond.fieldLink own i C (T k).2.1 (T k).2.2.1 ∈ tb) (hv : fJ M p ci k = some v) (hd : decode cc pc = .ok (.getfield i, 3)) (kk : WS X M (pc + 3) loc (.long v :: st)) : WS X M pc loc (rf X.1 p :: st) := by
  obtain ⟨⟨l, D, cy, b, adK, adV⟩, p0, e, R, s, m, args, below, meth, c, Q, n0, nL⟩ := X
  obtain ⟨hx, hb, hml, hown, hts, hK, hlocks, hsz, hE, hfr, hlo, hce, hsl, hw⟩ := O
  intro H locs ls h0 hP hS hl
  obtain ⟨hc8, hcl, hin, hty, hnm, hfl, hdecl⟩ := HK
  obtain ⟨⟨hp, hkd⟩, hv⟩ := gd hv
  have hkN : k < N := by rw [← hfl]; exact (List.getElem?_eq_some_iff.mp ht).1
  refine va_get (D := D) (ci := ci) (C := C) (T := T) (N := N) (fs := (fl ci).mapIdx (fun j t => cv b M p t j)) hx hb hts hin hown hK hP p ((wl_get hp).trans (by rw [cel_obj hkd hc8])) hcl k hkN (hts _ hlk) (fun _ h9 => by rw [hdecl k hkN] at h9; exact h9) (mapIdx_at ht) hd ?_
  cases hv
  exact kk H locs ls h0 hP hS hl
theorem s_getR {X : CT} {cc : ByteArray} {own : String} {d lim w : Nat} (O : OKX X cc own d lim w) {M : MM} {pc : Nat} {loc : List (Nat × Value)} {st : List Value} {i p : Nat} {v : Nat} {ci k : Nat} {C : String} {T : u_T} {N : Nat} {ty : Nat → FieldType} (HK : KCok ci C T N ty) (ht : (fl ci)[k]? = some 2) (hlk : Cond.fieldLink own i C (T k).2.1 (T k).2.2.1 ∈ tb) (hv : fR M p ci k = some v) (hd : decode cc pc = .ok (.getfield i, 3)) (kk : WS X M (pc + 3) loc (rf X.1 v :: st)) : WS X M pc loc (rf X.1 p :: st) := by
  obtain ⟨⟨l, D, cy, b, adK, adV⟩, p0, e, R, s, m, args, below, meth, c, Q, n0, nL⟩ := X
  obtain ⟨hx, hb, hml, hown, hts, hK, hlocks, hsz, hE, hfr, hlo, hce, hsl, hw⟩ := O
  intro H locs ls h0 hP hS hl
  obtain ⟨hc8, hcl, hin, hty, hnm, hfl, hdecl⟩ := HK
  obtain ⟨⟨hp, hkd⟩, hv⟩ := gd hv
  have hkN : k < N := by rw [← hfl]; exact (List.getElem?_eq_some_iff.mp ht).1
  refine va_get (D := D) (ci := ci) (C := C) (T := T) (N := N) (fs := (fl ci).mapIdx (fun j t => cv b M p t j)) hx hb hts hin hown hK hP p ((wl_get hp).trans (by rw [cel_obj hkd hc8])) hcl k hkN (hts _ hlk) (fun _ h9 => by rw [hdecl k hkN] at h9; exact h9) (mapIdx_at ht) hd ?_
  have e : cv b M p 2 k = .ref (b + v) := by
    have hv' : gR M p k = some v := hv
    simp [cv, hv', va_rf]
  rw [e]
  exact kk H locs ls h0 hP hS hl
theorem mapIdx_set {M M' : MM} {b p k t : Nat} {l : List Nat} {v : Value} (hk : l[k]? = some t) (hv : cv b M' p t k = v) (ho : ∀ j t, j ≠ k → cv b M' p t j = cv b M p t j) : (l.mapIdx (fun j t => cv b M p t j)).set k v = l.mapIdx (fun j t => cv b M' p t j) := by
  apply List.ext_getElem?
  intro j
  rw [List.getElem?_set]
  by_cases hj : k = j
  · subst hj
    have hl := (List.getElem?_eq_some_iff.mp hk).1
    rw [if_pos rfl, if_pos (by simpa using hl)]
    rw [mapIdx_at hk, hv]
  · rw [if_neg hj]
    simp only [List.getElem?_mapIdx]
    cases hlj : l[j]? with
    | none => rfl
    | some t' => simp [ho j t' (fun h => hj h.symm)]
theorem cv_sI {M : MM} {b p k t j : Nat} {v : Int32} (h : j ≠ k) : cv b (sI M p k v) p t j = cv b M p t j := by
  have e : gI (sI M p k v) p j = gI M p j := by simp [gI, sI, h]
  simp only [cv, e]
  rfl
theorem cv_sJ {M : MM} {b p k t j : Nat} {v : Int64} (h : j ≠ k) : cv b (sJ M p k v) p t j = cv b M p t j := by
  have e : gJ (sJ M p k v) p j = gJ M p j := by simp [gJ, sJ, h]
  simp only [cv, e]
  rfl
theorem cv_sR {M : MM} {b p k t j : Nat} {v : Option Nat} (h : j ≠ k) : cv b (sR M p k v) p t j = cv b M p t j := by
  have e : gR (sR M p k v) p j = gR M p j := by simp [gR, sR, h]
  simp only [cv, e]
  rfl
def isInit (X : CT) : Prop := match X with
  | (_, _, _, _, _, _, _, _, meth, _, _, _, _) => meth.name = "<init>"
theorem s_putI {X : CT} {cc : ByteArray} {own : String} {d lim w : Nat} (O : OKX X cc own d lim w) {M : MM} {pc : Nat} {loc : List (Nat × Value)} {st : List Value} {i p : Nat} {v : Int32} {M' : MM} {ci k : Nat} {C : String} {T : u_T} {N : Nat} {ty : Nat → FieldType} (HK : KCok ci C T N ty) (ht : (fl ci)[k]? = some 0) (hty2 : ty k = .int) (hfin : (T k).2.2.2 = false) (hlk : Cond.fieldLink own i C (T k).2.1 (T k).2.2.1 ∈ tb) (hv : wfI M p ci k v = some M') (hd : decode cc pc = .ok (.putfield i, 3)) (kk : WS X M' (pc + 3) loc st) : WS X M pc loc (.int v :: rf X.1 p :: st) := by
  obtain ⟨⟨l, D, cy, b, adK, adV⟩, p0, e, R, s, m, args, below, meth, c, Q, n0, nL⟩ := X
  obtain ⟨hx, hb, hml, hown, hts, hK, hlocks, hsz, hE, hfr, hlo, hce, hsl, hw⟩ := O
  intro H locs ls h0 hP hS hl
  obtain ⟨hc8, hcl, hin, hty, hnm, hfl, hdecl⟩ := HK
  obtain ⟨hg, hv⟩ := gd hv
  cases hv
  have hkN : k < N := by rw [← hfl]; exact (List.getElem?_eq_some_iff.mp ht).1
  have hp : p < M.1 := hg.1
  have hkd : kd p = ci := hg.2
  have hnar : narrow (ty k) (.int v) = .int v := by rw [hty2]; rfl
  have hfit : fits (ty k) (.int v) = true := by rw [hty2]; rfl
  refine va_put (D := D) (ci := ci) (C := C) (T := T) (N := N) (ty := ty k) (fs := (fl ci).mapIdx (fun j t => cv b M p t j)) hx hb hts hin ty hty hnm hown hK hP wl_D hS p ((wl_get hp).trans (by rw [cel_obj hkd hc8])) hcl k hkN (hts _ hlk) (fun _ h9 => by rw [hdecl k hkN] at h9; exact h9) hfin (hty k hkN) hnar hfit (by simpa [hfl] using hkN) hd (fun H1 locs1 hP1 _ hS1 => ?_)
  have e1 : cel b cy (sI M p k v) p = .inr (ci, ((fl ci).mapIdx (fun j t => cv b M p t j)).set k (.int v)) := by
    rw [cel_obj hkd hc8, mapIdx_set ht (M' := sI M p k v) (by simp [cv, gI, gJ, gR, sI, sJ, sR, va_rf]) (fun j t h => cv_sI h)]
  change va_P D vwCl ((wl b cy M).set p (b + p, .inr (ci, ((fl ci).mapIdx (fun j t => cv b M p t j)).set k (.int v)))) H1 at hP1
  rw [wl_set (M := M) (M' := sI M p k v) rfl e1 (fun q h => cel_sI h)] at hP1
  exact kk H1 locs1 ls h0 hP1 hS1 hl
theorem s_putZ {X : CT} {cc : ByteArray} {own : String} {d lim w : Nat} (O : OKX X cc own d lim w) {M : MM} {pc : Nat} {loc : List (Nat × Value)} {st : List Value} {i p : Nat} {v : Int32} {M' : MM} {ci k : Nat} {C : String} {T : u_T} {N : Nat} {ty : Nat → FieldType} (HK : KCok ci C T N ty) (ht : (fl ci)[k]? = some 0) (hty2 : ty k = .boolean) (hfin : (T k).2.2.2 = false) (hlk : Cond.fieldLink own i C (T k).2.1 (T k).2.2.1 ∈ tb) (hv : wfZ M p ci k v = some M') (hd : decode cc pc = .ok (.putfield i, 3)) (kk : WS X M' (pc + 3) loc st) : WS X M pc loc (.int v :: rf X.1 p :: st) := by
  obtain ⟨⟨l, D, cy, b, adK, adV⟩, p0, e, R, s, m, args, below, meth, c, Q, n0, nL⟩ := X
  obtain ⟨hx, hb, hml, hown, hts, hK, hlocks, hsz, hE, hfr, hlo, hce, hsl, hw⟩ := O
  intro H locs ls h0 hP hS hl
  obtain ⟨hc8, hcl, hin, hty, hnm, hfl, hdecl⟩ := HK
  obtain ⟨hg, hv⟩ := gd hv
  cases hv
  have hkN : k < N := by rw [← hfl]; exact (List.getElem?_eq_some_iff.mp ht).1
  have hp : p < M.1 := hg.1
  have hkd : kd p = ci := hg.2.1
  have hnar : narrow (ty k) (.int v) = .int v := by rw [hty2]; rcases hg.2.2 with rfl | rfl <;> rfl
  have hfit : fits (ty k) (.int v) = true := by rw [hty2]; rcases hg.2.2 with rfl | rfl <;> rfl
  refine va_put (D := D) (ci := ci) (C := C) (T := T) (N := N) (ty := ty k) (fs := (fl ci).mapIdx (fun j t => cv b M p t j)) hx hb hts hin ty hty hnm hown hK hP wl_D hS p ((wl_get hp).trans (by rw [cel_obj hkd hc8])) hcl k hkN (hts _ hlk) (fun _ h9 => by rw [hdecl k hkN] at h9; exact h9) hfin (hty k hkN) hnar hfit (by simpa [hfl] using hkN) hd (fun H1 locs1 hP1 _ hS1 => ?_)
  have e1 : cel b cy (sI M p k v) p = .inr (ci, ((fl ci).mapIdx (fun j t => cv b M p t j)).set k (.int v)) := by
    rw [cel_obj hkd hc8, mapIdx_set ht (M' := sI M p k v) (by simp [cv, gI, gJ, gR, sI, sJ, sR, va_rf]) (fun j t h => cv_sI h)]
  change va_P D vwCl ((wl b cy M).set p (b + p, .inr (ci, ((fl ci).mapIdx (fun j t => cv b M p t j)).set k (.int v)))) H1 at hP1
  rw [wl_set (M := M) (M' := sI M p k v) rfl e1 (fun q h => cel_sI h)] at hP1
  exact kk H1 locs1 ls h0 hP1 hS1 hl
theorem s_putJ {X : CT} {cc : ByteArray} {own : String} {d lim w : Nat} (O : OKX X cc own d lim w) {M : MM} {pc : Nat} {loc : List (Nat × Value)} {st : List Value} {i p : Nat} {v : Int64} {M' : MM} {ci k : Nat} {C : String} {T : u_T} {N : Nat} {ty : Nat → FieldType} (HK : KCok ci C T N ty) (ht : (fl ci)[k]? = some 1) (hty2 : ty k = .long) (hfin : (T k).2.2.2 = false) (hlk : Cond.fieldLink own i C (T k).2.1 (T k).2.2.1 ∈ tb) (hv : wfJ M p ci k v = some M') (hd : decode cc pc = .ok (.putfield i, 3)) (kk : WS X M' (pc + 3) loc st) : WS X M pc loc (.long v :: rf X.1 p :: st) := by
  obtain ⟨⟨l, D, cy, b, adK, adV⟩, p0, e, R, s, m, args, below, meth, c, Q, n0, nL⟩ := X
  obtain ⟨hx, hb, hml, hown, hts, hK, hlocks, hsz, hE, hfr, hlo, hce, hsl, hw⟩ := O
  intro H locs ls h0 hP hS hl
  obtain ⟨hc8, hcl, hin, hty, hnm, hfl, hdecl⟩ := HK
  obtain ⟨hg, hv⟩ := gd hv
  cases hv
  have hkN : k < N := by rw [← hfl]; exact (List.getElem?_eq_some_iff.mp ht).1
  have hp : p < M.1 := hg.1
  have hkd : kd p = ci := hg.2
  have hnar : narrow (ty k) (.long v) = .long v := by rw [hty2]; rfl
  have hfit : fits (ty k) (.long v) = true := by rw [hty2]; rfl
  refine va_put (D := D) (ci := ci) (C := C) (T := T) (N := N) (ty := ty k) (fs := (fl ci).mapIdx (fun j t => cv b M p t j)) hx hb hts hin ty hty hnm hown hK hP wl_D hS p ((wl_get hp).trans (by rw [cel_obj hkd hc8])) hcl k hkN (hts _ hlk) (fun _ h9 => by rw [hdecl k hkN] at h9; exact h9) hfin (hty k hkN) hnar hfit (by simpa [hfl] using hkN) hd (fun H1 locs1 hP1 _ hS1 => ?_)
  have e1 : cel b cy (sJ M p k v) p = .inr (ci, ((fl ci).mapIdx (fun j t => cv b M p t j)).set k (.long v)) := by
    rw [cel_obj hkd hc8, mapIdx_set ht (M' := sJ M p k v) (by simp [cv, gI, gJ, gR, sI, sJ, sR, va_rf]) (fun j t h => cv_sJ h)]
  change va_P D vwCl ((wl b cy M).set p (b + p, .inr (ci, ((fl ci).mapIdx (fun j t => cv b M p t j)).set k (.long v)))) H1 at hP1
  rw [wl_set (M := M) (M' := sJ M p k v) rfl e1 (fun q h => cel_sJ h)] at hP1
  exact kk H1 locs1 ls h0 hP1 hS1 hl
theorem s_putR {X : CT} {cc : ByteArray} {own : String} {d lim w : Nat} (O : OKX X cc own d lim w) {M : MM} {pc : Nat} {loc : List (Nat × Value)} {st : List Value} {i p : Nat} {v : Nat} {M' : MM} {ci k : Nat} {C : String} {T : u_T} {N : Nat} {ty : Nat → FieldType} (HK : KCok ci C T N ty) (ht : (fl ci)[k]? = some 2) (hty2 : (∃ n, ty k = .object n) ∨ ∃ t, ty k = .array t) (hfin : (T k).2.2.2 = false) (hlk : Cond.fieldLink own i C (T k).2.1 (T k).2.2.1 ∈ tb) (hv : wfR M p ci k v = some M') (hd : decode cc pc = .ok (.putfield i, 3)) (kk : WS X M' (pc + 3) loc st) : WS X M pc loc (rf X.1 v :: rf X.1 p :: st) := by
  obtain ⟨⟨l, D, cy, b, adK, adV⟩, p0, e, R, s, m, args, below, meth, c, Q, n0, nL⟩ := X
  obtain ⟨hx, hb, hml, hown, hts, hK, hlocks, hsz, hE, hfr, hlo, hce, hsl, hw⟩ := O
  intro H locs ls h0 hP hS hl
  obtain ⟨hc8, hcl, hin, hty, hnm, hfl, hdecl⟩ := HK
  obtain ⟨hg, hv⟩ := gd hv
  cases hv
  have hkN : k < N := by rw [← hfl]; exact (List.getElem?_eq_some_iff.mp ht).1
  have hp : p < M.1 := hg.1
  have hkd : kd p = ci := hg.2.1
  have hnar : narrow (ty k) (.ref (b + v)) = .ref (b + v) := by rcases hty2 with ⟨n, h⟩ | ⟨t, h⟩ <;> rw [h] <;> rfl
  have hfit : fits (ty k) (.ref (b + v)) = true := by rcases hty2 with ⟨n, h⟩ | ⟨t, h⟩ <;> rw [h] <;> rfl
  refine va_put (D := D) (ci := ci) (C := C) (T := T) (N := N) (ty := ty k) (fs := (fl ci).mapIdx (fun j t => cv b M p t j)) hx hb hts hin ty hty hnm hown hK hP wl_D hS p ((wl_get hp).trans (by rw [cel_obj hkd hc8])) hcl k hkN (hts _ hlk) (fun _ h9 => by rw [hdecl k hkN] at h9; exact h9) hfin (hty k hkN) hnar hfit (by simpa [hfl] using hkN) hd (fun H1 locs1 hP1 _ hS1 => ?_)
  have e1 : cel b cy (sR M p k (some v)) p = .inr (ci, ((fl ci).mapIdx (fun j t => cv b M p t j)).set k (.ref (b + v))) := by
    rw [cel_obj hkd hc8, mapIdx_set ht (M' := sR M p k (some v)) (by simp [cv, gI, gJ, gR, sI, sJ, sR, va_rf]) (fun j t h => cv_sR h)]
  change va_P D vwCl ((wl b cy M).set p (b + p, .inr (ci, ((fl ci).mapIdx (fun j t => cv b M p t j)).set k (.ref (b + v))))) H1 at hP1
  rw [wl_set (M := M) (M' := sR M p k (some v)) rfl e1 (fun q h => cel_sR h)] at hP1
  exact kk H1 locs1 ls h0 hP1 hS1 hl
theorem s_putIF {X : CT} {cc : ByteArray} {own : String} {d lim w : Nat} (O : OKX X cc own d lim w) {M : MM} {pc : Nat} {loc : List (Nat × Value)} {st : List Value} {i p : Nat} {v : Int32} {M' : MM} {ci k : Nat} {C : String} {T : u_T} {N : Nat} {ty : Nat → FieldType} (HK : KCok ci C T N ty) (ht : (fl ci)[k]? = some 0) (hty2 : ty k = .int) (hfin : (T k).2.2.2 = true) (hii : isInit X) (hoC : own = C) (hlk : Cond.fieldLink own i C (T k).2.1 (T k).2.2.1 ∈ tb) (hv : wfI M p ci k v = some M') (hd : decode cc pc = .ok (.putfield i, 3)) (kk : WS X M' (pc + 3) loc st) : WS X M pc loc (.int v :: rf X.1 p :: st) := by
  obtain ⟨⟨l, D, cy, b, adK, adV⟩, p0, e, R, s, m, args, below, meth, c, Q, n0, nL⟩ := X
  obtain ⟨hx, hb, hml, hown, hts, hK, hlocks, hsz, hE, hfr, hlo, hce, hsl, hw⟩ := O
  intro H locs ls h0 hP hS hl
  obtain ⟨hc8, hcl, hin, hty, hnm, hfl, hdecl⟩ := HK
  obtain ⟨hg, hv⟩ := gd hv
  cases hv
  have hkN : k < N := by rw [← hfl]; exact (List.getElem?_eq_some_iff.mp ht).1
  have hp : p < M.1 := hg.1
  have hkd : kd p = ci := hg.2
  have hnar : narrow (ty k) (.int v) = .int v := by rw [hty2]; rfl
  have hfit : fits (ty k) (.int v) = true := by rw [hty2]; rfl
  refine va_putF (D := D) (ci := ci) (C := C) (T := T) (N := N) (ty := ty k) (fs := (fl ci).mapIdx (fun j t => cv b M p t j)) hx hb hts hin ty hty hnm hown hK hP wl_D hS p ((wl_get hp).trans (by rw [cel_obj hkd hc8])) hcl k hkN (hts _ hlk) (fun _ h9 => by rw [hdecl k hkN] at h9; exact h9) hfin hii (by rw [hdecl k hkN]; exact hoC.symm) (hty k hkN) hnar hfit (by simpa [hfl] using hkN) hd (fun H1 locs1 hP1 _ hS1 => ?_)
  have e1 : cel b cy (sI M p k v) p = .inr (ci, ((fl ci).mapIdx (fun j t => cv b M p t j)).set k (.int v)) := by
    rw [cel_obj hkd hc8, mapIdx_set ht (M' := sI M p k v) (by simp [cv, gI, gJ, gR, sI, sJ, sR, va_rf]) (fun j t h => cv_sI h)]
  change va_P D vwCl ((wl b cy M).set p (b + p, .inr (ci, ((fl ci).mapIdx (fun j t => cv b M p t j)).set k (.int v)))) H1 at hP1
  rw [wl_set (M := M) (M' := sI M p k v) rfl e1 (fun q h => cel_sI h)] at hP1
  exact kk H1 locs1 ls h0 hP1 hS1 hl
theorem s_putZF {X : CT} {cc : ByteArray} {own : String} {d lim w : Nat} (O : OKX X cc own d lim w) {M : MM} {pc : Nat} {loc : List (Nat × Value)} {st : List Value} {i p : Nat} {v : Int32} {M' : MM} {ci k : Nat} {C : String} {T : u_T} {N : Nat} {ty : Nat → FieldType} (HK : KCok ci C T N ty) (ht : (fl ci)[k]? = some 0) (hty2 : ty k = .boolean) (hfin : (T k).2.2.2 = true) (hii : isInit X) (hoC : own = C) (hlk : Cond.fieldLink own i C (T k).2.1 (T k).2.2.1 ∈ tb) (hv : wfZ M p ci k v = some M') (hd : decode cc pc = .ok (.putfield i, 3)) (kk : WS X M' (pc + 3) loc st) : WS X M pc loc (.int v :: rf X.1 p :: st) := by
  obtain ⟨⟨l, D, cy, b, adK, adV⟩, p0, e, R, s, m, args, below, meth, c, Q, n0, nL⟩ := X
  obtain ⟨hx, hb, hml, hown, hts, hK, hlocks, hsz, hE, hfr, hlo, hce, hsl, hw⟩ := O
  intro H locs ls h0 hP hS hl
  obtain ⟨hc8, hcl, hin, hty, hnm, hfl, hdecl⟩ := HK
  obtain ⟨hg, hv⟩ := gd hv
  cases hv
  have hkN : k < N := by rw [← hfl]; exact (List.getElem?_eq_some_iff.mp ht).1
  have hp : p < M.1 := hg.1
  have hkd : kd p = ci := hg.2.1
  have hnar : narrow (ty k) (.int v) = .int v := by rw [hty2]; rcases hg.2.2 with rfl | rfl <;> rfl
  have hfit : fits (ty k) (.int v) = true := by rw [hty2]; rcases hg.2.2 with rfl | rfl <;> rfl
  refine va_putF (D := D) (ci := ci) (C := C) (T := T) (N := N) (ty := ty k) (fs := (fl ci).mapIdx (fun j t => cv b M p t j)) hx hb hts hin ty hty hnm hown hK hP wl_D hS p ((wl_get hp).trans (by rw [cel_obj hkd hc8])) hcl k hkN (hts _ hlk) (fun _ h9 => by rw [hdecl k hkN] at h9; exact h9) hfin hii (by rw [hdecl k hkN]; exact hoC.symm) (hty k hkN) hnar hfit (by simpa [hfl] using hkN) hd (fun H1 locs1 hP1 _ hS1 => ?_)
  have e1 : cel b cy (sI M p k v) p = .inr (ci, ((fl ci).mapIdx (fun j t => cv b M p t j)).set k (.int v)) := by
    rw [cel_obj hkd hc8, mapIdx_set ht (M' := sI M p k v) (by simp [cv, gI, gJ, gR, sI, sJ, sR, va_rf]) (fun j t h => cv_sI h)]
  change va_P D vwCl ((wl b cy M).set p (b + p, .inr (ci, ((fl ci).mapIdx (fun j t => cv b M p t j)).set k (.int v)))) H1 at hP1
  rw [wl_set (M := M) (M' := sI M p k v) rfl e1 (fun q h => cel_sI h)] at hP1
  exact kk H1 locs1 ls h0 hP1 hS1 hl
theorem s_putJF {X : CT} {cc : ByteArray} {own : String} {d lim w : Nat} (O : OKX X cc own d lim w) {M : MM} {pc : Nat} {loc : List (Nat × Value)} {st : List Value} {i p : Nat} {v : Int64} {M' : MM} {ci k : Nat} {C : String} {T : u_T} {N : Nat} {ty : Nat → FieldType} (HK : KCok ci C T N ty) (ht : (fl ci)[k]? = some 1) (hty2 : ty k = .long) (hfin : (T k).2.2.2 = true) (hii : isInit X) (hoC : own = C) (hlk : Cond.fieldLink own i C (T k).2.1 (T k).2.2.1 ∈ tb) (hv : wfJ M p ci k v = some M') (hd : decode cc pc = .ok (.putfield i, 3)) (kk : WS X M' (pc + 3) loc st) : WS X M pc loc (.long v :: rf X.1 p :: st) := by
  obtain ⟨⟨l, D, cy, b, adK, adV⟩, p0, e, R, s, m, args, below, meth, c, Q, n0, nL⟩ := X
  obtain ⟨hx, hb, hml, hown, hts, hK, hlocks, hsz, hE, hfr, hlo, hce, hsl, hw⟩ := O
  intro H locs ls h0 hP hS hl
  obtain ⟨hc8, hcl, hin, hty, hnm, hfl, hdecl⟩ := HK
  obtain ⟨hg, hv⟩ := gd hv
  cases hv
  have hkN : k < N := by rw [← hfl]; exact (List.getElem?_eq_some_iff.mp ht).1
  have hp : p < M.1 := hg.1
  have hkd : kd p = ci := hg.2
  have hnar : narrow (ty k) (.long v) = .long v := by rw [hty2]; rfl
  have hfit : fits (ty k) (.long v) = true := by rw [hty2]; rfl
  refine va_putF (D := D) (ci := ci) (C := C) (T := T) (N := N) (ty := ty k) (fs := (fl ci).mapIdx (fun j t => cv b M p t j)) hx hb hts hin ty hty hnm hown hK hP wl_D hS p ((wl_get hp).trans (by rw [cel_obj hkd hc8])) hcl k hkN (hts _ hlk) (fun _ h9 => by rw [hdecl k hkN] at h9; exact h9) hfin hii (by rw [hdecl k hkN]; exact hoC.symm) (hty k hkN) hnar hfit (by simpa [hfl] using hkN) hd (fun H1 locs1 hP1 _ hS1 => ?_)
  have e1 : cel b cy (sJ M p k v) p = .inr (ci, ((fl ci).mapIdx (fun j t => cv b M p t j)).set k (.long v)) := by
    rw [cel_obj hkd hc8, mapIdx_set ht (M' := sJ M p k v) (by simp [cv, gI, gJ, gR, sI, sJ, sR, va_rf]) (fun j t h => cv_sJ h)]
  change va_P D vwCl ((wl b cy M).set p (b + p, .inr (ci, ((fl ci).mapIdx (fun j t => cv b M p t j)).set k (.long v)))) H1 at hP1
  rw [wl_set (M := M) (M' := sJ M p k v) rfl e1 (fun q h => cel_sJ h)] at hP1
  exact kk H1 locs1 ls h0 hP1 hS1 hl
theorem s_putRF {X : CT} {cc : ByteArray} {own : String} {d lim w : Nat} (O : OKX X cc own d lim w) {M : MM} {pc : Nat} {loc : List (Nat × Value)} {st : List Value} {i p : Nat} {v : Nat} {M' : MM} {ci k : Nat} {C : String} {T : u_T} {N : Nat} {ty : Nat → FieldType} (HK : KCok ci C T N ty) (ht : (fl ci)[k]? = some 2) (hty2 : (∃ n, ty k = .object n) ∨ ∃ t, ty k = .array t) (hfin : (T k).2.2.2 = true) (hii : isInit X) (hoC : own = C) (hlk : Cond.fieldLink own i C (T k).2.1 (T k).2.2.1 ∈ tb) (hv : wfR M p ci k v = some M') (hd : decode cc pc = .ok (.putfield i, 3)) (kk : WS X M' (pc + 3) loc st) : WS X M pc loc (rf X.1 v :: rf X.1 p :: st) := by
  obtain ⟨⟨l, D, cy, b, adK, adV⟩, p0, e, R, s, m, args, below, meth, c, Q, n0, nL⟩ := X
  obtain ⟨hx, hb, hml, hown, hts, hK, hlocks, hsz, hE, hfr, hlo, hce, hsl, hw⟩ := O
  intro H locs ls h0 hP hS hl
  obtain ⟨hc8, hcl, hin, hty, hnm, hfl, hdecl⟩ := HK
  obtain ⟨hg, hv⟩ := gd hv
  cases hv
  have hkN : k < N := by rw [← hfl]; exact (List.getElem?_eq_some_iff.mp ht).1
  have hp : p < M.1 := hg.1
  have hkd : kd p = ci := hg.2.1
  have hnar : narrow (ty k) (.ref (b + v)) = .ref (b + v) := by rcases hty2 with ⟨n, h⟩ | ⟨t, h⟩ <;> rw [h] <;> rfl
  have hfit : fits (ty k) (.ref (b + v)) = true := by rcases hty2 with ⟨n, h⟩ | ⟨t, h⟩ <;> rw [h] <;> rfl
  refine va_putF (D := D) (ci := ci) (C := C) (T := T) (N := N) (ty := ty k) (fs := (fl ci).mapIdx (fun j t => cv b M p t j)) hx hb hts hin ty hty hnm hown hK hP wl_D hS p ((wl_get hp).trans (by rw [cel_obj hkd hc8])) hcl k hkN (hts _ hlk) (fun _ h9 => by rw [hdecl k hkN] at h9; exact h9) hfin hii (by rw [hdecl k hkN]; exact hoC.symm) (hty k hkN) hnar hfit (by simpa [hfl] using hkN) hd (fun H1 locs1 hP1 _ hS1 => ?_)
  have e1 : cel b cy (sR M p k (some v)) p = .inr (ci, ((fl ci).mapIdx (fun j t => cv b M p t j)).set k (.ref (b + v))) := by
    rw [cel_obj hkd hc8, mapIdx_set ht (M' := sR M p k (some v)) (by simp [cv, gI, gJ, gR, sI, sJ, sR, va_rf]) (fun j t h => cv_sR h)]
  change va_P D vwCl ((wl b cy M).set p (b + p, .inr (ci, ((fl ci).mapIdx (fun j t => cv b M p t j)).set k (.ref (b + v))))) H1 at hP1
  rw [wl_set (M := M) (M' := sR M p k (some v)) rfl e1 (fun q h => cel_sR h)] at hP1
  exact kk H1 locs1 ls h0 hP1 hS1 hl
theorem s_alen {X : CT} {cc : ByteArray} {own : String} {d lim w : Nat} (O : OKX X cc own d lim w) {M : MM} {pc : Nat} {loc : List (Nat × Value)} {st : List Value} {p kc : Nat} {v : Int32} (hp : p < M.1) (hc : kd p = kc) (hc8 : 8 ≤ kc ∧ kc ≤ 13) (hv : Int32.ofNat (ln p) = v) (hd : decode cc pc = .ok (.arraylength, 1)) (kk : WS X M (pc + 1) loc (.int v :: st)) : WS X M pc loc (rf X.1 p :: st) := by
  obtain ⟨⟨l, D, cy, b, adK, adV⟩, p0, e, R, s, m, args, below, meth, c, Q, n0, nL⟩ := X
  obtain ⟨hx, hb, hml, hown, hts, hK, hlocks, hsz, hE, hfr, hlo, hce, hsl, hw⟩ := O
  intro H locs ls h0 hP hS hl
  rcases (show kc = 8 ∨ kc = 9 ∨ kc = 10 ∨ kc = 11 ∨ kc = 12 ∨ kc = 13 by omega) with rfl | rfl | rfl | rfl | rfl | rfl
  · exact va_alen hx hb hK hP p 0 ((wl_get hp).trans (by rw [cel_I hc])) rfl hv hd (kk H locs ls h0 hP hS hl)
  · exact va_alen hx hb hK hP p 1 ((wl_get hp).trans (by rw [cel_J hc])) rfl hv hd (kk H locs ls h0 hP hS hl)
  · exact va_alen hx hb hK hP p 2 ((wl_get hp).trans (by rw [cel_Z hc])) rfl hv hd (kk H locs ls h0 hP hS hl)
  · exact va_alen hx hb hK hP p 3 ((wl_get hp).trans (by rw [cel_R hc (by decide)])) rfl hv hd (kk H locs ls h0 hP hS hl)
  · exact va_alen hx hb hK hP p 4 ((wl_get hp).trans (by rw [cel_R hc (by decide)])) rfl hv hd (kk H locs ls h0 hP hS hl)
  · exact va_alen hx hb hK hP p 5 ((wl_get hp).trans (by rw [cel_R hc (by decide)])) rfl hv hd (kk H locs ls h0 hP hS hl)
theorem s_aldI {X : CT} {cc : ByteArray} {own : String} {d lim w : Nat} (O : OKX X cc own d lim w) {M : MM} {pc : Nat} {loc : List (Nat × Value)} {st : List Value} {p : Nat} {i : Int32} {v : Int32} (hv : aI M p i = some v) (hd : decode cc pc = .ok (.iaload, 1)) (kk : WS X M (pc + 1) loc (.int v :: st)) : WS X M pc loc (.int i :: rf X.1 p :: st) := by
  obtain ⟨⟨l, D, cy, b, adK, adV⟩, p0, e, R, s, m, args, below, meth, c, Q, n0, nL⟩ := X
  obtain ⟨hx, hb, hml, hown, hts, hK, hlocks, hsz, hE, hfr, hlo, hce, hsl, hw⟩ := O
  intro H locs ls h0 hP hS hl
  obtain ⟨⟨hp, hc, hi⟩, hv⟩ := gd hv
  cases hv
  exact va_iald hx hb hK hP p 0 ((wl_get hp).trans (by rw [cel_I hc])) rfl hi hd (kk H locs ls h0 hP hS hl)
theorem s_aldZ {X : CT} {cc : ByteArray} {own : String} {d lim w : Nat} (O : OKX X cc own d lim w) {M : MM} {pc : Nat} {loc : List (Nat × Value)} {st : List Value} {p : Nat} {i : Int32} {v : Int32} (hv : aZ M p i = some v) (hd : decode cc pc = .ok (.baload, 1)) (kk : WS X M (pc + 1) loc (.int v :: st)) : WS X M pc loc (.int i :: rf X.1 p :: st) := by
  obtain ⟨⟨l, D, cy, b, adK, adV⟩, p0, e, R, s, m, args, below, meth, c, Q, n0, nL⟩ := X
  obtain ⟨hx, hb, hml, hown, hts, hK, hlocks, hsz, hE, hfr, hlo, hce, hsl, hw⟩ := O
  intro H locs ls h0 hP hS hl
  obtain ⟨⟨hp, hc, hi⟩, hv⟩ := gd hv
  cases hv
  exact va_zald hx hb hK hP p 2 ((wl_get hp).trans (by rw [cel_Z hc])) rfl hi hd (kk H locs ls h0 hP hS hl)
theorem s_aldJ {X : CT} {cc : ByteArray} {own : String} {d lim w : Nat} (O : OKX X cc own d lim w) {M : MM} {pc : Nat} {loc : List (Nat × Value)} {st : List Value} {p : Nat} {i : Int32} {v : Int64} (hv : aJ M p i = some v) (hd : decode cc pc = .ok (.laload, 1)) (kk : WS X M (pc + 1) loc (.long v :: st)) : WS X M pc loc (.int i :: rf X.1 p :: st) := by
  obtain ⟨⟨l, D, cy, b, adK, adV⟩, p0, e, R, s, m, args, below, meth, c, Q, n0, nL⟩ := X
  obtain ⟨hx, hb, hml, hown, hts, hK, hlocks, hsz, hE, hfr, hlo, hce, hsl, hw⟩ := O
  intro H locs ls h0 hP hS hl
  obtain ⟨⟨hp, hc, hi⟩, hv⟩ := gd hv
  cases hv
  exact va_lald hx hb hK hP p 1 ((wl_get hp).trans (by rw [cel_J hc])) rfl hi hd (kk H locs ls h0 hP hS hl)
theorem s_aldR11 {X : CT} {cc : ByteArray} {own : String} {d lim w : Nat} (O : OKX X cc own d lim w) {M : MM} {pc : Nat} {loc : List (Nat × Value)} {st : List Value} {p v : Nat} {i : Int32} (hv : aR M p 11 i = some v) (hd : decode cc pc = .ok (.aaload, 1)) (kk : WS X M (pc + 1) loc (rf X.1 v :: st)) : WS X M pc loc (.int i :: rf X.1 p :: st) := by
  obtain ⟨⟨l, D, cy, b, adK, adV⟩, p0, e, R, s, m, args, below, meth, c, Q, n0, nL⟩ := X
  obtain ⟨hx, hb, hml, hown, hts, hK, hlocks, hsz, hE, hfr, hlo, hce, hsl, hw⟩ := O
  intro H locs ls h0 hP hS hl
  obtain ⟨⟨hp, hc, hi⟩, hv⟩ := gd hv
  refine va_aldq hx hb hK hP p 3 ((wl_get hp).trans (by rw [cel_R hc (by decide)])) rfl hi hd ?_
  have hv' : gR M p i.toNatClampNeg = some v := hv
  rw [hv']
  exact kk H locs ls h0 hP hS hl
theorem s_aldR12 {X : CT} {cc : ByteArray} {own : String} {d lim w : Nat} (O : OKX X cc own d lim w) {M : MM} {pc : Nat} {loc : List (Nat × Value)} {st : List Value} {p v : Nat} {i : Int32} (hv : aR M p 12 i = some v) (hd : decode cc pc = .ok (.aaload, 1)) (kk : WS X M (pc + 1) loc (rf X.1 v :: st)) : WS X M pc loc (.int i :: rf X.1 p :: st) := by
  obtain ⟨⟨l, D, cy, b, adK, adV⟩, p0, e, R, s, m, args, below, meth, c, Q, n0, nL⟩ := X
  obtain ⟨hx, hb, hml, hown, hts, hK, hlocks, hsz, hE, hfr, hlo, hce, hsl, hw⟩ := O
  intro H locs ls h0 hP hS hl
  obtain ⟨⟨hp, hc, hi⟩, hv⟩ := gd hv
  refine va_aldq hx hb hK hP p 4 ((wl_get hp).trans (by rw [cel_R hc (by decide)])) rfl hi hd ?_
  have hv' : gR M p i.toNatClampNeg = some v := hv
  rw [hv']
  exact kk H locs ls h0 hP hS hl
theorem s_aldR13 {X : CT} {cc : ByteArray} {own : String} {d lim w : Nat} (O : OKX X cc own d lim w) {M : MM} {pc : Nat} {loc : List (Nat × Value)} {st : List Value} {p v : Nat} {i : Int32} (hv : aR M p 13 i = some v) (hd : decode cc pc = .ok (.aaload, 1)) (kk : WS X M (pc + 1) loc (rf X.1 v :: st)) : WS X M pc loc (.int i :: rf X.1 p :: st) := by
  obtain ⟨⟨l, D, cy, b, adK, adV⟩, p0, e, R, s, m, args, below, meth, c, Q, n0, nL⟩ := X
  obtain ⟨hx, hb, hml, hown, hts, hK, hlocks, hsz, hE, hfr, hlo, hce, hsl, hw⟩ := O
  intro H locs ls h0 hP hS hl
  obtain ⟨⟨hp, hc, hi⟩, hv⟩ := gd hv
  refine va_aldq hx hb hK hP p 5 ((wl_get hp).trans (by rw [cel_R hc (by decide)])) rfl hi hd ?_
  have hv' : gR M p i.toNatClampNeg = some v := hv
  rw [hv']
  exact kk H locs ls h0 hP hS hl
theorem upd_gI {M : MM} {p k : Nat} {v : Int32} : upd (gI M p) k v = gI (sI M p k v) p := by
  funext j
  simp [upd, gI, sI]
theorem upd_gJ {M : MM} {p k : Nat} {v : Int64} : vp_updL (gJ M p) k v = gJ (sJ M p k v) p := by
  funext j
  simp [vp_updL, gJ, sJ]
theorem upd_gR {M : MM} {b p k v : Nat} : va_up (fun j => (gR M p j).map (b + ·)) k (some (b + v)) = fun j => (gR (sR M p k (some v)) p j).map (b + ·) := by
  funext j
  by_cases h : j = k <;> simp [va_up, gR, sR, h]
theorem s_astI {X : CT} {cc : ByteArray} {own : String} {d lim w : Nat} (O : OKX X cc own d lim w) {M : MM} {pc : Nat} {loc : List (Nat × Value)} {st : List Value} {p : Nat} {i v : Int32} {M' : MM} (hv : waI M p i v = some M') (hd : decode cc pc = .ok (.iastore, 1)) (kk : WS X M' (pc + 1) loc st) : WS X M pc loc (.int v :: .int i :: rf X.1 p :: st) := by
  obtain ⟨⟨l, D, cy, b, adK, adV⟩, p0, e, R, s, m, args, below, meth, c, Q, n0, nL⟩ := X
  obtain ⟨hx, hb, hml, hown, hts, hK, hlocks, hsz, hE, hfr, hlo, hce, hsl, hw⟩ := O
  intro H locs ls h0 hP hS hl
  obtain ⟨⟨hp, hc, hi⟩, hv⟩ := gd hv
  cases hv
  refine va_iast hx hb hK hP wl_D hS p 0 ((wl_get hp).trans (by rw [cel_I hc])) rfl hi hd (fun H1 locs1 hP1 _ hS1 => ?_)
  change va_P D vwCl ((wl b cy M).set p (b + p, _)) H1 at hP1
  rw [wl_set (M := M) (M' := sI M p i.toNatClampNeg v) rfl (by rw [cel_I hc, upd_gI]) (fun q h => cel_sI h)] at hP1
  exact kk H1 locs1 ls h0 hP1 hS1 hl
theorem s_astZ {X : CT} {cc : ByteArray} {own : String} {d lim w : Nat} (O : OKX X cc own d lim w) {M : MM} {pc : Nat} {loc : List (Nat × Value)} {st : List Value} {p : Nat} {i v : Int32} {M' : MM} (hv : waZ M p i v = some M') (hd : decode cc pc = .ok (.bastore, 1)) (kk : WS X M' (pc + 1) loc st) : WS X M pc loc (.int v :: .int i :: rf X.1 p :: st) := by
  obtain ⟨⟨l, D, cy, b, adK, adV⟩, p0, e, R, s, m, args, below, meth, c, Q, n0, nL⟩ := X
  obtain ⟨hx, hb, hml, hown, hts, hK, hlocks, hsz, hE, hfr, hlo, hce, hsl, hw⟩ := O
  intro H locs ls h0 hP hS hl
  obtain ⟨⟨hp, hc, hi, h01⟩, hv⟩ := gd hv
  cases hv
  refine va_zast hx hb hK hP wl_D hS p 2 ((wl_get hp).trans (by rw [cel_Z hc])) rfl hi hd (fun H1 locs1 hP1 _ hS1 => ?_)
  have hn : vp_nar .boolean v = v := by rcases h01 with rfl | rfl <;> rfl
  change va_P D vwCl ((wl b cy M).set p (b + p, _)) H1 at hP1
  rw [hn, wl_set (M := M) (M' := sI M p i.toNatClampNeg v) rfl (by rw [cel_Z hc, upd_gI]) (fun q h => cel_sI h)] at hP1
  exact kk H1 locs1 ls h0 hP1 hS1 hl
theorem s_astJ {X : CT} {cc : ByteArray} {own : String} {d lim w : Nat} (O : OKX X cc own d lim w) {M : MM} {pc : Nat} {loc : List (Nat × Value)} {st : List Value} {p : Nat} {i : Int32} {v : Int64} {M' : MM} (hv : waJ M p i v = some M') (hd : decode cc pc = .ok (.lastore, 1)) (kk : WS X M' (pc + 1) loc st) : WS X M pc loc (.long v :: .int i :: rf X.1 p :: st) := by
  obtain ⟨⟨l, D, cy, b, adK, adV⟩, p0, e, R, s, m, args, below, meth, c, Q, n0, nL⟩ := X
  obtain ⟨hx, hb, hml, hown, hts, hK, hlocks, hsz, hE, hfr, hlo, hce, hsl, hw⟩ := O
  intro H locs ls h0 hP hS hl
  obtain ⟨⟨hp, hc, hi⟩, hv⟩ := gd hv
  cases hv
  refine va_last hx hb hK hP wl_D hS p 1 ((wl_get hp).trans (by rw [cel_J hc])) rfl hi hd (fun H1 locs1 hP1 _ hS1 => ?_)
  change va_P D vwCl ((wl b cy M).set p (b + p, _)) H1 at hP1
  rw [wl_set (M := M) (M' := sJ M p i.toNatClampNeg v) rfl (by rw [cel_J hc, upd_gJ]) (fun q h => cel_sJ h)] at hP1
  exact kk H1 locs1 ls h0 hP1 hS1 hl
theorem s_astR11 {X : CT} {cc : ByteArray} {own : String} {d lim w : Nat} (O : OKX X cc own d lim w) {M : MM} {pc : Nat} {loc : List (Nat × Value)} {st : List Value} {p v : Nat} {i : Int32} {M' : MM} (hv : waR M p 11 0 i v = some M') (hd : decode cc pc = .ok (.aastore, 1)) (kk : WS X M' (pc + 1) loc st) : WS X M pc loc (rf X.1 v :: .int i :: rf X.1 p :: st) := by
  obtain ⟨⟨l, D, cy, b, adK, adV⟩, p0, e, R, s, m, args, below, meth, c, Q, n0, nL⟩ := X
  obtain ⟨hx, hb, hml, hown, hts, hK, hlocks, hsz, hE, hfr, hlo, hce, hsl, hw⟩ := O
  intro H locs ls h0 hP hS hl
  obtain ⟨⟨hp, hc, hi, hvp, hvk⟩, hv⟩ := gd hv
  cases hv
  refine va_astq hx hb hK hP wl_D hS p 3 v 0 ((wl_get hp).trans (by rw [cel_R hc (by decide)])) rfl ((wl_get hvp).trans (by rw [cel_obj hvk (by decide)])) rfl hi hd (fun H1 locs1 hP1 _ hS1 => ?_)
  change va_P D vwCl ((wl b cy M).set p (b + p, _)) H1 at hP1
  rw [wl_set (M := M) (M' := sR M p i.toNatClampNeg (some v)) rfl (by rw [cel_R hc (by decide), upd_gR]) (fun q h => cel_sR h)] at hP1
  exact kk H1 locs1 ls h0 hP1 hS1 hl
theorem s_astR12 {X : CT} {cc : ByteArray} {own : String} {d lim w : Nat} (O : OKX X cc own d lim w) {M : MM} {pc : Nat} {loc : List (Nat × Value)} {st : List Value} {p v : Nat} {i : Int32} {M' : MM} (hv : waR M p 12 2 i v = some M') (hd : decode cc pc = .ok (.aastore, 1)) (kk : WS X M' (pc + 1) loc st) : WS X M pc loc (rf X.1 v :: .int i :: rf X.1 p :: st) := by
  obtain ⟨⟨l, D, cy, b, adK, adV⟩, p0, e, R, s, m, args, below, meth, c, Q, n0, nL⟩ := X
  obtain ⟨hx, hb, hml, hown, hts, hK, hlocks, hsz, hE, hfr, hlo, hce, hsl, hw⟩ := O
  intro H locs ls h0 hP hS hl
  obtain ⟨⟨hp, hc, hi, hvp, hvk⟩, hv⟩ := gd hv
  cases hv
  refine va_astq hx hb hK hP wl_D hS p 4 v 2 ((wl_get hp).trans (by rw [cel_R hc (by decide)])) rfl ((wl_get hvp).trans (by rw [cel_obj hvk (by decide)])) rfl hi hd (fun H1 locs1 hP1 _ hS1 => ?_)
  change va_P D vwCl ((wl b cy M).set p (b + p, _)) H1 at hP1
  rw [wl_set (M := M) (M' := sR M p i.toNatClampNeg (some v)) rfl (by rw [cel_R hc (by decide), upd_gR]) (fun q h => cel_sR h)] at hP1
  exact kk H1 locs1 ls h0 hP1 hS1 hl
theorem s_astR13 {X : CT} {cc : ByteArray} {own : String} {d lim w : Nat} (O : OKX X cc own d lim w) {M : MM} {pc : Nat} {loc : List (Nat × Value)} {st : List Value} {p v : Nat} {i : Int32} {M' : MM} (hv : waR M p 13 5 i v = some M') (hd : decode cc pc = .ok (.aastore, 1)) (kk : WS X M' (pc + 1) loc st) : WS X M pc loc (rf X.1 v :: .int i :: rf X.1 p :: st) := by
  obtain ⟨⟨l, D, cy, b, adK, adV⟩, p0, e, R, s, m, args, below, meth, c, Q, n0, nL⟩ := X
  obtain ⟨hx, hb, hml, hown, hts, hK, hlocks, hsz, hE, hfr, hlo, hce, hsl, hw⟩ := O
  intro H locs ls h0 hP hS hl
  obtain ⟨⟨hp, hc, hi, hvp, hvk⟩, hv⟩ := gd hv
  cases hv
  refine va_astq hx hb hK hP wl_D hS p 5 v 5 ((wl_get hp).trans (by rw [cel_R hc (by decide)])) rfl ((wl_get hvp).trans (by rw [cel_obj hvk (by decide)])) rfl hi hd (fun H1 locs1 hP1 _ hS1 => ?_)
  change va_P D vwCl ((wl b cy M).set p (b + p, _)) H1 at hP1
  rw [wl_set (M := M) (M' := sR M p i.toNatClampNeg (some v)) rfl (by rw [cel_R hc (by decide), upd_gR]) (fun q h => cel_sR h)] at hP1
  exact kk H1 locs1 ls h0 hP1 hS1 hl
