/-! THE START: the law's frame out of what the Statement gives; the whole out of the law's function (law_ok) -/
/-- the empty memory -/
def M0 : MM := (0, fun _ _ => 0, fun _ _ => 0, fun _ _ => none)
theorem in_tbl {args : Array Value} {s : State} (hts : ∀ w ∈ lw_tbl, w.before args s = true) : ∀ w ∈ tb, w.before args s = true := fun w h => hts w (List.mem_filter.mp h).1
theorem prim_cls {args : Array Value} {s : State} {ty : FieldType} (h : (Cond.arrayClass ty).before args s = true) : ∃ cA, s.vm.findClass ("[" ++ ty.toString) = some cA ∧ ArrOfT s cA ty := by
  obtain ⟨c, k, comp, h1, h2, h3⟩ := Cond.arrayClass_spec h
  exact ⟨c, h1, fun n z => ⟨fun k h => (by cases h), k, h2, comp, h3⟩⟩
theorem obj_cls {args : Array Value} {s : State} {C : String} (h : (Cond.arrayOver (.object C)).before args s = true) : ∃ cA, ArrOfT s cA (.object C) ∧ va_RA s cA (.object C) := by
  obtain ⟨comp, c, k, h1, h2, h3, h4, h5⟩ := Cond.arrayOver_spec h
  exact ⟨c, fun n z => ⟨fun k h => (by cases h), k, h3, comp, h4⟩, k, comp, h3, h4, h1, h5⟩
theorem tys_known {args : Array Value} {s : State} (hts : ∀ w ∈ lw_tbl, w.before args s = true) : ∃ cy : Nat → ClassId, ∀ (k : Nat) (q : ClassId × FieldType), (tysL cy)[k]? = some q → ArrOfT s q.1 q.2 ∧ va_RA s q.1 q.2 := by
  obtain ⟨c8, f8, a8⟩ := prim_cls (hts (.arrayClass .int) (List.mem_of_getElem? (i := 94) (by decide +kernel)))
  obtain ⟨c9, f9, a9⟩ := prim_cls (hts (.arrayClass .long) (List.mem_of_getElem? (i := 150) (by decide +kernel)))
  obtain ⟨c10, f10, a10⟩ := prim_cls (hts (.arrayClass .boolean) (List.mem_of_getElem? (i := 149) (by decide +kernel)))
  obtain ⟨c11, a11, f11⟩ := obj_cls (C := RX0) (hts (.arrayOver (.object RX0)) (List.mem_of_getElem? (i := 169) (by decide +kernel)))
  obtain ⟨c12, a12, f12⟩ := obj_cls (C := RX2) (hts (.arrayOver (.object RX2)) (List.mem_of_getElem? (i := 179) (by decide +kernel)))
  obtain ⟨c13, a13, f13⟩ := obj_cls (C := RX5) (hts (.arrayOver (.object RX5)) (List.mem_of_getElem? (i := 177) (by decide +kernel)))
  refine ⟨fun k => if k = 8 then c8 else if k = 9 then c9 else if k = 10 then c10 else if k = 11 then c11 else if k = 12 then c12 else c13, ?_⟩
  intro k q hq
  match k, hq with
  | 0, hq => cases hq; exact ⟨a8, f8⟩
  | 1, hq => cases hq; exact ⟨a9, f9⟩
  | 2, hq => cases hq; exact ⟨a10, f10⟩
  | 3, hq => cases hq; exact ⟨a11, f11⟩
  | 4, hq => cases hq; exact ⟨a12, f12⟩
  | 5, hq => cases hq; exact ⟨a13, f13⟩
  | k + 6, hq => simp [tysL] at hq
theorem cls_known {args : Array Value} {s : State} (hts : ∀ w ∈ lw_tbl, w.before args s = true) : ∃ (dC : Nat → ClassId) (dI : Nat → Nat → Nat), ∀ (k : Nat) (q : vw_C), vwCl[k]? = some q → u_Kn s q.1 q.2.1 q.2.2 (dC k) (dI k) := by
  obtain ⟨c0, i0, h0⟩ := u_known (C := RX0) (T := TX0) (N := 3) (n := 3) (in_tbl hts) kc0.2.2.1 (hts (.instantiable RX0 3) (List.mem_of_getElem? (i := 152) (by decide +kernel)))
  obtain ⟨c1, i1, h1⟩ := u_known (C := RX1) (T := TX1) (N := 14) (n := 14) (in_tbl hts) kc1.2.2.1 (hts (.instantiable RX1 14) (List.mem_of_getElem? (i := 96) (by decide +kernel)))
  obtain ⟨c2, i2, h2⟩ := u_known (C := RX2) (T := TX2) (N := 2) (n := 2) (in_tbl hts) kc2.2.2.1 (hts (.instantiable RX2 2) (List.mem_of_getElem? (i := 212) (by decide +kernel)))
  obtain ⟨c3, i3, h3⟩ := u_known (C := RX3) (T := TX3) (N := 6) (n := 6) (in_tbl hts) kc3.2.2.1 (hts (.instantiable RX3 6) (List.mem_of_getElem? (i := 63) (by decide +kernel)))
  obtain ⟨c4, i4, h4⟩ := u_known (C := RX4) (T := TX4) (N := 4) (n := 4) (in_tbl hts) kc4.2.2.1 (hts (.instantiable RX4 4) (List.mem_of_getElem? (i := 171) (by decide +kernel)))
  obtain ⟨c5, i5, h5⟩ := u_known (C := RX5) (T := TX5) (N := 5) (n := 5) (in_tbl hts) kc5.2.2.1 (hts (.instantiable RX5 5) (List.mem_of_getElem? (i := 180) (by decide +kernel)))
  obtain ⟨c6, i6, h6⟩ := u_known (C := RX6) (T := TX6) (N := 7) (n := 7) (in_tbl hts) kc6.2.2.1 (hts (.instantiable RX6 7) (List.mem_of_getElem? (i := 55) (by decide +kernel)))
  obtain ⟨c7, i7, h7⟩ := u_known (C := RX7) (T := TX7) (N := 18) (n := 18) (in_tbl hts) kc7.2.2.1 (hts (.instantiable RX7 18) (List.mem_of_getElem? (i := 637) (by decide +kernel)))
  refine ⟨fun k => if k = 0 then c0 else if k = 1 then c1 else if k = 2 then c2 else if k = 3 then c3 else if k = 4 then c4 else if k = 5 then c5 else if k = 6 then c6 else c7, fun k => if k = 0 then i0 else if k = 1 then i1 else if k = 2 then i2 else if k = 3 then i3 else if k = 4 then i4 else if k = 5 then i5 else if k = 6 then i6 else i7, ?_⟩
  intro k q hq
  match k, hq with
  | 0, hq => cases hq; exact h0
  | 1, hq => cases hq; exact h1
  | 2, hq => cases hq; exact h2
  | 3, hq => cases hq; exact h3
  | 4, hq => cases hq; exact h4
  | 5, hq => cases hq; exact h5
  | 6, hq => cases hq; exact h6
  | 7, hq => cases hq; exact h7
  | k + 8, hq => simp [vwCl] at hq
theorem ao_of {C : String} {args : Array Value} {s : State} (h : (Cond.arrayOver (.object C)).before args s = true) : va_AO C s := h
def tmS (i : Nat) : Term := if i = 0 then .string "SameLetters$Text" 38 else .string "SameLetters$Text" 44
set_option maxRecDepth 100000 in
theorem env_start {args : Array Value} {s : State} {l : Launch} {D : va_G} {cy : Nat → ClassId} (hts : ∀ w ∈ lw_tbl, w.before args s = true) (hgv : (Jvm.Cond.and given_1 narrow_1).before args s = true) : ∃ adK adV : Nat → Nat, ENV (l, D, cy, s.heap.size, adK, adV) s s.heap := by
  have hs := flat_of_before _ hgv
  have hA : ∀ a : Nat, a < s.heap.size → ¬ (fun q : Nat => s.heap.size ≤ q) a := fun a h => Nat.not_le.mpr h
  obtain ⟨adK, adV, hS, hT⟩ := vk_Sof (args := args) (s := s) (N := 2) (tm := tmS) (len := lenS) (byt := bytS) (A := fun q : Nat => s.heap.size ≤ q)
    (fun i _ => lenS_small i)
    (fun i hi => by rcases (show i = 0 ∨ i = 1 by omega) with rfl | rfl <;> exact hs _ (by decide +kernel))
    (fun i hi => by rcases (show i = 0 ∨ i = 1 by omega) with rfl | rfl <;> exact hs _ (by decide +kernel))
    (fun i hi => by rcases (show i = 0 ∨ i = 1 by omega) with rfl | rfl <;> exact hs _ (by decide +kernel))
    (fun i hi => by rcases (show i = 0 ∨ i = 1 by omega) with rfl | rfl <;> exact hs _ (by decide +kernel))
    (fun i hi j hj => by
      rcases (show i = 0 ∨ i = 1 by omega) with rfl | rfl
      · rcases (show j = 0 ∨ j = 1 ∨ j = 2 ∨ j = 3 by have : j < 4 := hj; omega) with rfl | rfl | rfl | rfl <;> exact hs _ (by decide +kernel)
      · rcases (show j = 0 ∨ j = 1 ∨ j = 2 ∨ j = 3 ∨ j = 4 by have : j < 5 := hj; omega) with rfl | rfl | rfl | rfl | rfl <;> exact hs _ (by decide +kernel))
    (fun i j hi hj hne => by
      rcases (show i = 0 ∨ i = 1 by omega) with rfl | rfl <;> rcases (show j = 0 ∨ j = 1 by omega) with rfl | rfl
      · exact absurd rfl hne
      · exact Or.inl (hs _ (by decide +kernel))
      · exact Or.inr (hs _ (by decide +kernel))
      · exact absurd rfl hne) hA
  refine ⟨adK, adV, ao_of (hts (.arrayOver (.object RX0)) (List.mem_of_getElem? (i := 169) (by decide +kernel))), ao_of (hts (.arrayOver (.object RX2)) (List.mem_of_getElem? (i := 179) (by decide +kernel))), ao_of (hts (.arrayOver (.object RX5)) (List.mem_of_getElem? (i := 177) (by decide +kernel))), ?_, ?_, hS, ?_, ?_, ?_⟩
  · exact vk_R.of (A := args) (hts _ (List.mem_of_getElem? (i := 307) (by decide +kernel))) (hT 0 (by decide))
  · exact vk_R.of (A := args) (hts _ (List.mem_of_getElem? (i := 360) (by decide +kernel))) (hT 1 (by decide))
  · exact va_Zof (hts _ (List.mem_of_getElem? (i := 321) (by decide +kernel))) (hts _ (List.mem_of_getElem? (i := 48) (by decide +kernel))) (va_eqt (hs _ (by decide +kernel))) hA
  · exact va_Zqof (hts _ (List.mem_of_getElem? (i := 337) (by decide +kernel))) (hts _ (List.mem_of_getElem? (i := 50) (by decide +kernel))) (hs _ (by decide +kernel)) hA
  · intro w hw
    obtain ⟨a, i, x, g, rfl⟩ := nest_is w hw
    exact va_Nw.of rfl (hts _ ((show ∀ w ∈ nestL, w ∈ lw_tbl by decide +kernel) _ hw))
set_option maxRecDepth 100000 in
/-- the walk of the law's body, if its function answers 1 -/
theorem start_of {p : Program} {e : Env} {s : State} {m : MethodId} {below : List Frame} {meth : Method} {c : Code} (l : Launch) {b L : Nat} {xs : Nat → Int32} {M' : MM} (C0 : lw_At p s m meth c b L xs) (hlaw : f_L_law 93 L xs M0 = some (1, M')) : W p l e room_1 s m #[Value.ref b] below meth c s.heap [] 0 0 (lw_Z below #[Value.ref b] s) (entryFrame m ([Value.ref b] : List Value).toArray 4) := by
  obtain ⟨hx, hb, hr, hml, hown, hts, hX, hbl, hlocks, hgv⟩ := C0
  obtain ⟨cy, hty⟩ := tys_known hts
  obtain ⟨dC, dI, hcl⟩ := cls_known hts
  obtain ⟨adK, adV, hE⟩ := env_start (l := l) (D := (dC, dI)) (cy := cy) hts hgv
  have h := c_L_law (X := ((l, (dC, dI), cy, s.heap.size, adK, adV), p, e, room_1, s, m, #[Value.ref b], below, meth, c, lw_Z below #[Value.ref b] s, 0, 4)) (lim := 93) (bs := b) (L := L) (xs := xs) (M := M0) (M' := M')
    ⟨hx, hb, hml, hown, in_tbl hts, ⟨hcl, hty⟩, hlocks, rfl, hE, by decide, by decide, by decide, Nat.le_of_ble_eq_true (by decide +kernel), rfl⟩ ⟨hX, hbl, rfl⟩ (Nat.zero_le _) hlaw ⟨b, rfl, rfl, rfl, hr, rfl, rfl⟩
  rw [lg_entry_eq]
  exact h s.heap [] _ (Nat.le_refl _) (fun k q h => by simp [wl, M0] at h) va_S.rf (lv_entry ([.ref b]) (n := 4) (Nat.le_of_ble_eq_true rfl))
