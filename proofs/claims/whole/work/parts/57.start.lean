/-! PURE: the start -/
def ZM (M : MM) : Prop := ∀ p j, gI M p j = 0 ∧ gJ M p j = 0
theorem zm_nP {M : MM} (h : ZM M) : ZM (nP M) := fun p j => by
  refine ⟨?_, ?_⟩
  · show (if p = M.1 then 0 else gI M p j) = 0
    split
    · rfl
    · exact (h p j).1
  · show (if p = M.1 then 0 else gJ M p j) = 0
    split
    · rfl
    · exact (h p j).2
theorem zm_sR {M : MM} {p j : Nat} {v : Option Nat} (h : ZM M) : ZM (sR M p j v) := h
theorem zm_sJ {M : MM} {p j : Nat} (h : ZM M) : ZM (sJ M p j 0) := fun q k => by
  refine ⟨(h q k).1, ?_⟩
  rw [gJ_sJ]
  split
  · rfl
  · exact (h q k).2
def OZ (o : Option MM) : Prop := ∀ M, o = some M → ZM M
theorem oz_none : OZ none := fun M h => by cases h
theorem oz_some {M : MM} (h : ZM M) : OZ (some M) := fun M' e => by
  cases e
  exact h
theorem oz_bind {o : Option MM} {f : MM → Option MM} (h : OZ o) (hf : ∀ M, ZM M → OZ (f M)) : OZ (o.bind f) := by
  cases o with
  | none => exact oz_none
  | some M => exact hf M (h M rfl)
theorem oz_b2 {α : Type} {o : Option α} {f : α → Option MM} (hf : ∀ a, OZ (f a)) : OZ (o.bind f) := by
  cases o with
  | none => exact oz_none
  | some a => exact hf a
theorem oz_if {c : Prop} {d : Decidable c} {a b : Option MM} (ha : OZ a) (hb : OZ b) : OZ (@ite _ c d a b) := by
  by_cases h : c
  · rw [if_pos h]
    exact ha
  · rw [if_neg h]
    exact hb
theorem oz_nArr {M : MM} {lim c : Nat} {i : Int32} (h : ZM M) : OZ (nArr M lim c i) := oz_if (oz_some (zm_nP h)) oz_none
theorem oz_nObj {M : MM} {lim c : Nat} (h : ZM M) : OZ (nObj M lim c) := oz_if (oz_some (zm_nP h)) oz_none
theorem oz_wfR {M : MM} {p c k v : Nat} (h : ZM M) : OZ (wfR M p c k v) := oz_if (oz_some (zm_sR h)) oz_none
theorem oz_waR {M : MM} {p c ce v : Nat} {i : Int32} (h : ZM M) : OZ (waR M p c ce i v) := oz_if (oz_some (zm_sR h)) oz_none
theorem oz_wfJ {M : MM} {p c k : Nat} (h : ZM M) : OZ (wfJ M p c k 0) := oz_if (oz_some (zm_sJ h)) oz_none
def SZ (r : MM ⊕ (Int32 × MM)) : Prop := match r with | .inl M => ZM M | .inr t => ZM t.2
def O2 (o : Option (MM ⊕ (Int32 × MM))) : Prop := ∀ r, o = some r → SZ r
theorem o2_none : O2 none := fun M h => by cases h
theorem o2_some {r : MM ⊕ (Int32 × MM)} (h : SZ r) : O2 (some r) := fun M' e => by
  cases e
  exact h
theorem o2_bind {o : Option MM} {f : MM → Option (MM ⊕ (Int32 × MM))} (h : OZ o) (hf : ∀ M, ZM M → O2 (f M)) : O2 (o.bind f) := by
  cases o with
  | none => exact o2_none
  | some M => exact hf M (h M rfl)
theorem o2_b2 {α : Type} {o : Option α} {f : α → Option (MM ⊕ (Int32 × MM))} (hf : ∀ a, O2 (f a)) : O2 (o.bind f) := by
  cases o with
  | none => exact o2_none
  | some a => exact hf a
theorem o2_if {c : Prop} {d : Decidable c} {a b : Option (MM ⊕ (Int32 × MM))} (ha : O2 a) (hb : O2 b) : O2 (@ite _ c d a b) := by
  by_cases h : c
  · rw [if_pos h]
    exact ha
  · rw [if_neg h]
    exact hb
theorem o2_map {o : Option MM} (h : OZ o) : O2 (o.map .inl) := by
  cases o with
  | none => exact o2_none
  | some M => exact o2_some (h M rfl)
theorem oz_lp {step : Int32 × MM → Option (MM ⊕ (Int32 × MM))} (h : ∀ t : Int32 × MM, ZM t.2 → O2 (step t)) (n : Nat) (t : Int32 × MM) (ht : ZM t.2) : OZ (lp step n t) := fun M e => lp_ind (P := fun r s => ZM s.2 → ZM r) (fun s r hsr hz => by
  rcases hsr with q | ⟨t, q, p⟩
  · exact h s hz _ q
  · exact p (h s hz _ q)) n t M e ht
theorem z_X0 {lim p : Nat} {M : MM} (h : ZM M) : OZ (f_X0_init lim M p) := oz_if (oz_bind (oz_nArr h) fun _ h => oz_bind (oz_wfR h) fun _ h => oz_some h) oz_none
theorem z_X2 {lim p : Nat} {M : MM} (h : ZM M) : OZ (f_X2_init lim M p) := oz_if (oz_bind (oz_nArr h) fun _ h => oz_bind (oz_wfR h) fun _ h => oz_some h) oz_none
theorem z_X3 {lim p : Nat} {M : MM} (h : ZM M) : OZ (f_X3_init lim M p) := oz_if (oz_bind (oz_nArr h) fun _ h => oz_bind (oz_wfR h) fun _ h => oz_some h) oz_none
theorem z_X5 {lim p : Nat} {M : MM} (h : ZM M) : OZ (f_X5_init lim M p) := oz_if (oz_bind (oz_nArr h) fun _ h => oz_bind (oz_wfR h) fun _ h => oz_some h) oz_none
theorem z_X1 {lim p : Nat} {M : MM} (h : ZM M) : OZ (f_X1_init lim M p) := by
  unfold f_X1_init
  refine oz_if ?_ oz_none
  repeat (first | exact oz_some (by assumption) | refine oz_bind (oz_nArr (by assumption)) fun _ _ => ?_ | refine oz_bind (oz_wfR (by assumption)) fun _ _ => ?_)
theorem z_X4 {lim p : Nat} {M : MM} (h : ZM M) : OZ (f_X4_init lim M p) := by
  unfold f_X4_init
  refine oz_if (oz_bind (oz_nArr h) fun _ h1 => oz_bind (oz_wfR h1) fun _ h2 => oz_bind (oz_nArr h2) fun _ h3 => oz_bind (oz_wfR h3) fun N h4 => ?_) oz_none
  refine oz_lp (fun t ht => ?_) _ _ h4
  unfold z_X4_init_23
  refine o2_if (o2_map (oz_lp (fun t ht => ?_) _ _ ht)) (o2_b2 fun _ => o2_bind (oz_nObj ht) fun _ h1 => o2_bind (z_X5 h1) fun _ h2 => o2_if (o2_bind (oz_waR h2) fun _ h3 => o2_some h3) o2_none)
  unfold z_X4_init_50
  exact o2_if (o2_some ht) (o2_b2 fun _ => o2_bind (oz_nObj ht) fun _ h1 => o2_bind (z_X2 h1) fun _ h2 => o2_if (o2_bind (oz_waR h2) fun _ h3 => o2_some h3) o2_none)
theorem z_X6 {lim p : Nat} {M : MM} (h : ZM M) : OZ (f_X6_init lim M p) := by
  unfold f_X6_init
  refine oz_if (oz_bind (oz_nObj h) fun _ h1 => oz_bind (z_X3 h1) fun _ h2 => oz_if (oz_bind (oz_wfR h2) fun _ h3 => oz_bind (oz_nObj h3) fun _ h4 => oz_bind (z_X1 h4) fun _ h5 => oz_if (oz_bind (oz_wfR h5) fun _ h6 => oz_bind (oz_nObj h6) fun _ h7 => oz_bind (z_X0 h7) fun _ h8 => oz_if (oz_bind (oz_wfR h8) fun _ h9 => oz_bind (oz_nArr h9) fun _ h10 => oz_bind (oz_wfR h10) fun N h11 => ?_) oz_none) oz_none) oz_none) oz_none
  refine oz_lp (fun t ht => ?_) _ _ h11
  unfold z_X6_init_47
  refine o2_if (o2_map ?_) (o2_b2 fun _ => o2_bind (oz_nObj ht) fun _ h1 => o2_bind (z_X0 h1) fun _ h2 => o2_if (o2_bind (oz_waR h2) fun _ h3 => o2_some h3) o2_none)
  exact oz_bind (oz_nObj ht) fun _ h1 => oz_bind (z_X4 h1) fun _ h2 => oz_if (oz_bind (oz_wfR h2) fun _ h3 => oz_bind (oz_nObj h3) fun _ h4 => oz_bind (z_X4 h4) fun _ h5 => oz_if (oz_bind (oz_wfR h5) fun _ h6 => oz_bind (oz_wfJ h6) fun _ h7 => oz_some h7) oz_none) oz_none
theorem zm_0 : ZM M0 := fun _ _ => ⟨rfl, rfl⟩
/-- where the class's references point at the start -/
def chk (M : MM) : Bool := decide (M.1 = 81) && ([(0, 0, 1), (0, 1, 3), (0, 2, 16), (0, 3, 18), (0, 4, 23), (0, 5, 52), (1, 0, 2), (3, 0, 4), (3, 1, 5), (3, 2, 6), (3, 3, 7), (3, 4, 8), (3, 5, 9), (3, 6, 10), (3, 7, 11), (3, 8, 12), (3, 10, 13), (3, 11, 14), (3, 12, 15), (16, 0, 17), (18, 0, 19), (18, 1, 21), (19, 0, 20), (21, 0, 22)] : List (Nat × Nat × Nat)).all (fun x => decide (gR M x.1 x.2.1 = some x.2.2)) && ([23, 52] : List Nat).all fun t => decide (gR M t 0 = some (t + 1)) && decide (gR M t 1 = some (t + 2)) && ((List.range 9).all fun w => decide (gR M (t + 1) w = some (t + 3 + 2 * w)) && decide (gR M (t + 3 + 2 * w) 0 = some (t + 4 + 2 * w))) && (List.range 4).all fun s => decide (gR M (t + 2) s = some (t + 21 + 2 * s)) && decide (gR M (t + 21 + 2 * s) 0 = some (t + 22 + 2 * s))
set_option maxRecDepth 100000 in
theorem init6 : (f_X6_init 81 (nP M0) 0).map chk = some true := by decide +kernel
