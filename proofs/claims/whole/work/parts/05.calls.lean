/-! CONTRACTS, CALLS, RETURNS -/
theorem nest_is : ∀ w ∈ nestL, ∃ a i x h, w = .methodLinkNest a i x h := by
  intro w hw
  simp only [nestL, List.mem_cons, List.not_mem_nil, or_false] at hw
  rcases hw with rfl | rfl | rfl | rfl | rfl <;> exact ⟨_, _, _, _, rfl⟩
theorem ENV.warm {G : GG} {u U : State} {H : Heap} (hW : u.WarmedH U.vm) (h : ENV G u H) : ENV G U H :=
  ⟨h.1.moved hW.alike, h.2.1.moved hW.alike, h.2.2.1.moved hW.alike, h.2.2.2.1.warm hW, h.2.2.2.2.1.warm hW, h.2.2.2.2.2.1.moved hW.alike, h.2.2.2.2.2.2.1.moved hW.alike, h.2.2.2.2.2.2.2.1.moved hW.alike, fun w hw => by
    obtain ⟨a, i, x, g, rfl⟩ := nest_is w hw
    exact va_Nw.warmM hW (h.2.2.2.2.2.2.2.2 _ hw)⟩
theorem ENV.kept {G : GG} {U : State} {H H1 : Heap} (hq : ∀ a : Nat, a < H.size → ¬ G.2.2.2.1 ≤ a → H1[a]? = H[a]?) (h : ENV G U H) : ENV G U H1 :=
  ⟨h.1, h.2.1, h.2.2.1, h.2.2.2.1, h.2.2.2.2.1, h.2.2.2.2.2.1.kept hq, h.2.2.2.2.2.2.1.kept hq, h.2.2.2.2.2.2.2.1.kept hq, h.2.2.2.2.2.2.2.2⟩
theorem ENV.same {G : GG} {u U : State} {H : Heap} (hv : U.vm = u.vm) (h : ENV G u H) : ENV G U H := by
  have ha : u.vm.Alike U.vm := by rw [hv]; exact Vm.Alike.refl _
  exact ⟨h.1.moved ha, h.2.1.moved ha, h.2.2.1.moved ha, h.2.2.2.1.same hv, h.2.2.2.2.1.same hv, h.2.2.2.2.2.1.moved ha, h.2.2.2.2.2.2.1.moved ha, h.2.2.2.2.2.2.2.1.moved ha, fun w hw => by
    obtain ⟨a, i, x, g, rfl⟩ := nest_is w hw
    exact va_Nw.same rfl hv.symm (h.2.2.2.2.2.2.2.2 _ hw)⟩
def rmA (d k z : Nat) : Room := { frames := d, cells := k, slots := z, locals := 32 * d }
def PcA (G : GG) (av : List Value) (M : MM) : Array Value → State → Prop := fun v U => v = av.toArray ∧ U.heap.size = G.2.2.2.1 + M.1 ∧ va_P G.2.1 vwCl (wl G.2.2.2.1 G.2.2.1 M) U.heap ∧ va_K G.2.1 vwCl (tysL G.2.2.1) U ∧ ENV G U U.heap
def QcA (G : GG) (r : Option Value) (M' : MM) : Array Value → State → Outcome → State → Prop := fun _ st o t => o = .returned r ∧ t.heap.size = G.2.2.2.1 + M'.1 ∧ va_P G.2.1 vwCl (wl G.2.2.2.1 G.2.2.1 M') t.heap ∧ va_F (fun q : Nat => G.2.2.2.1 ≤ q) st t
/-- the contract of a method at these arguments and this memory: it answers r, and the memory is M' then -/
def Ct (G : GG) (y : MethodName) (cc : ByteArray) (n : Nat) (ret : Option FieldType) (d : Nat) (av : List Value) (M : MM) (r : Option Value) (M' : MM) : Prop :=
  Met G.1 y (.code y cc n ret :: tb) (rmA d (M'.1 - M.1) (Zs M'.1 - Zs M.1)) (PcA G av M) (QcA G r M') (M'.1 - M.1) (Zs M'.1 - Zs M.1) (fun q : Nat => G.2.2.2.1 ≤ q)
theorem gi_all {y : MethodName} {cc : ByteArray} {n : Nat} {ret : Option FieldType} (h : Cond.code y cc n ret ∈ tb) : GoodIn tb (.code y cc n ret :: tb) := by
  intro w hw
  have hm : w ∈ tb := by
    rcases List.mem_cons.mp hw with rfl | hw
    · exact h
    · exact hw
  exact ⟨hm, good_of_word (List.mem_filter.mp hm).2⟩
def CallY (y : MethodName) (cc : ByteArray) (n : Nat) (ret : Option FieldType) (k : Nat) : Prop := (y.cls ≠ "java/lang/invoke/MethodHandle" ∧ y.cls ≠ "java/lang/invoke/VarHandle" ∧ (parseMethodDescriptor y.desc).map (fun d => d.parameters.length) = some k) ∧ Cond.code y cc n ret ∈ tb ∧ Cond.initialized y.cls ∈ tb ∧ n ≤ 13
theorem blind {G : GG} {av : List Value} {M : MM} : FrameBlind (PcA G av M) := fun a U g mk h => ⟨h.1, h.2.1, h.2.2.1, va_K.moved (u := U) (U := U.calling g mk a) (Vm.Alike.refl U.vm) h.2.2.2.1, ENV.same (u := U) (U := U.calling g mk a) rfl h.2.2.2.2⟩
section CALLK
variable {p : Program} {l : Launch} {e : Env} {R : Room} {s : State} {m : MethodId} {args : Array Value} {below : List Frame} {meth : Method} {c : Code} {H : Heap} {locs : List Loc} {Q : State → Prop}
/-- behind a call: from va_Run to the walk's next point -/
theorem run_on {D : va_G} {cy : Nat → ClassId} {b n0 pc : Nat} {adK adV : Nat → Nat} {M M' : MM} {ls : Array Slot} {st0 st : List Value} {r : Option Value} {a : Array Value} (h0 : n0 ≤ M.1) (hle : M.1 ≤ M'.1) (hS : va_S (fun q : Nat => b ≤ q) s.heap H locs)
    (hr : va_Run p l e R s m args below meth c H locs (M.1 - n0) (Zs M.1 - Zs n0) (M'.1 - M.1) (Zs M'.1 - Zs M.1) (F0 m pc ls st0) st (QcA (l, D, cy, b, adK, adV) r M' a) (fun q : Nat => b ≤ q))
    (kk : ∀ (H1 : Heap) (locs1 : List Loc), n0 ≤ M'.1 → va_P D vwCl (wl b cy M') H1 → va_S (fun q : Nat => b ≤ q) s.heap H1 locs1 → W p l e R s m args below meth c H1 locs1 (M'.1 - n0) (Zs M'.1 - Zs n0) Q (F0 m (pc + 3) ls (r.toList ++ st))) : W p l e R s m args below meth c H locs (M.1 - n0) (Zs M.1 - Zs n0) Q (F0 m pc ls st0) := by
  intro T hT X0
  obtain ⟨v, st₀, t, T', L, e0, X', hL, e1, e2, ⟨hv, hz, hP', hF⟩, stp⟩ := hr T hT X0
  cases hv
  have z1 := Zs_mono h0
  have z2 := Zs_mono hle
  have k1 : M.1 - n0 + (M'.1 - M.1) = M'.1 - n0 := by omega
  have k2 : Zs M.1 - Zs n0 + (Zs M'.1 - Zs M.1) = Zs M'.1 - Zs n0 := by omega
  rw [k1, k2] at X'
  obtain ⟨hF1, hF2⟩ := hF
  rw [e0] at hF1 hF2
  obtain ⟨t2, a1, b1⟩ := kk T'.heap (locs ++ L) (Nat.le_trans h0 hle) (by rw [e1]; exact hP') ⟨Nat.le_trans hS.1 (by rw [e1]; exact hF1), fun q h1 h2 => by rw [e1, hF2 q (Nat.lt_of_lt_of_le h1 hS.1) h2]; exact hS.2.1 q h1 h2, fun q hq => by
    rcases List.mem_append.mp hq with h | h
    · exact hS.2.2 q h
    · exact hL q h⟩ T' rfl X'
  exact ⟨t2, stp t2 a1, b1⟩
end CALLK
theorem s_callV {X : CT} {cc : ByteArray} {own : String} {d lim w : Nat} (O : OKX X cc own d lim w) {M : MM} {pc : Nat} {loc : List (Nat × Value)} {st : List Value} {y : MethodName} {cy' : ByteArray} {n k i d' : Nat} {ret : Option FieldType} {As st0 : List Value} {M' : MM} {r : Option Value} {ci p : Nat} {C : String} {T : u_T} {N : Nat} {ty : Nat → FieldType} (HK : KCok ci C T N ty) (hM : Ct X.1 y cy' n ret d' (rf X.1 p :: As) M r M') (hy : CallY y cy' n ret k) (hlk : Cond.methodLink own i y ∈ tb) (hin : Cond.instanceMethod y ∈ tb) (hse : Cond.selects C y y ∈ tb) (hd' : d' + 1 ≤ d) (hlen : As.length = k) (hle : M.1 ≤ M'.1) (hlim : M'.1 ≤ lim) (hp : p < M.1) (hkd : kd p = ci) (hst : st0 = As.reverse ++ rf X.1 p :: st) (hcat : (st.map fun v => v.category).sum ≤ 8) (hd : decode cc pc = .ok (.invokevirtual i, 3)) (kk : WS X M' (pc + 3) loc (r.toList ++ st)) : WS X M pc loc st0 := by
  obtain ⟨⟨l, D, cy, b, adK, adV⟩, p0, e, R, s, m, args, below, meth, c, Q, n0, nL⟩ := X
  obtain ⟨hx, hb, hml, hown, hts, hK, hlocks, hsz, hE, hfr, hlo, hce, hsl, hw⟩ := O
  intro H locs ls h0 hP hS hl
  refine ws_size hsz (by omega) hP hS (fun hH => ?_)
  refine run_on (D := D) (cy := cy) (b := b) (adK := adK) (adV := adV) h0 hle hS (va_runV (As := As) (rest := st) ⟨hx, hb, hml, hown, hts⟩ hM ⟨(callB_of (rm := rmA d' (M'.1 - M.1) (Zs M'.1 - Zs M.1)) k hts (gi_all hy.2.1) rfl rfl rfl (hts _ hy.2.2.1) (hts _ hlk) hy.1 ⟨by show d' + 1 ≤ R.frames; omega, by have := hy.2.2.2; show 8 + (n + 11) + 32 * d' ≤ R.locals; omega⟩), hts _ hin, hts _ hse⟩ ⟨blind, va_recv (D := D) hK hP HK.2.1 ((wl_get hp).trans (by rw [cel_obj hkd HK.1])), fun U hU hW => ⟨rfl, by rw [hU]; exact hH, by rw [hU]; exact hP, va_K.moved hW.alike hK, by rw [hU]; exact (hE.kept (fun a g1 g2 => hS.2.1 a g1 g2)).warm hW⟩⟩ rfl hlen hl.1 hst (lv_room hcat) hd ⟨by omega, by have := Zs_mono h0; have := Zs_mono hle; have := Zs_mono hlim; omega⟩) (fun H1 locs1 a1 a2 a3 => kk H1 locs1 ls a1 a2 a3 hl)
theorem s_callS {X : CT} {cc : ByteArray} {own : String} {d lim w : Nat} (O : OKX X cc own d lim w) {M : MM} {pc : Nat} {loc : List (Nat × Value)} {st : List Value} {y : MethodName} {cy' : ByteArray} {n k i d' : Nat} {ret : Option FieldType} {As st0 : List Value} {M' : MM} {r : Option Value} (hM : Ct X.1 y cy' n ret d' As M r M') (hy : CallY y cy' n ret k) (hlk : Cond.methodLink own i y ∈ tb) (hin : Cond.static y ∈ tb) (hd' : d' + 1 ≤ d) (hlen : As.length = k) (hle : M.1 ≤ M'.1) (hlim : M'.1 ≤ lim) (hst : st0 = As.reverse ++ st) (hcat : (st.map fun v => v.category).sum ≤ 8) (hd : decode cc pc = .ok (.invokestatic i, 3)) (kk : WS X M' (pc + 3) loc (r.toList ++ st)) : WS X M pc loc st0 := by
  obtain ⟨⟨l, D, cy, b, adK, adV⟩, p0, e, R, s, m, args, below, meth, c, Q, n0, nL⟩ := X
  obtain ⟨hx, hb, hml, hown, hts, hK, hlocks, hsz, hE, hfr, hlo, hce, hsl, hw⟩ := O
  intro H locs ls h0 hP hS hl
  refine ws_size hsz (by omega) hP hS (fun hH => ?_)
  refine run_on (D := D) (cy := cy) (b := b) (adK := adK) (adV := adV) h0 hle hS (va_runS (As := As) (rest := st) ⟨hx, hb, hml, hown, hts⟩ hM ⟨(callB_of (rm := rmA d' (M'.1 - M.1) (Zs M'.1 - Zs M.1)) k hts (gi_all hy.2.1) rfl rfl rfl (hts _ hy.2.2.1) (hts _ hlk) hy.1 ⟨by show d' + 1 ≤ R.frames; omega, by have := hy.2.2.2; show 8 + (n + 11) + 32 * d' ≤ R.locals; omega⟩), hts _ hin⟩ ⟨blind, fun U hU hW => ⟨rfl, by rw [hU]; exact hH, by rw [hU]; exact hP, va_K.moved hW.alike hK, by rw [hU]; exact (hE.kept (fun a g1 g2 => hS.2.1 a g1 g2)).warm hW⟩⟩ rfl hlen hl.1 hst (lv_room hcat) hd ⟨by omega, by have := Zs_mono h0; have := Zs_mono hle; have := Zs_mono hlim; omega⟩) (fun H1 locs1 a1 a2 a3 => kk H1 locs1 ls a1 a2 a3 hl)
theorem s_callI {X : CT} {cc : ByteArray} {own : String} {d lim w : Nat} (O : OKX X cc own d lim w) {M : MM} {pc : Nat} {loc : List (Nat × Value)} {st : List Value} {y : MethodName} {cy' : ByteArray} {n k i d' : Nat} {As st0 : List Value} {M' : MM} {r : Option Value} {p : Nat} (hM : Ct X.1 y cy' n none d' (rf X.1 p :: As) M r M') (hy : CallY y cy' n none k) (hlk : Cond.methodLink own i y ∈ tb) (hin : Cond.instanceMethod y ∈ tb) (hnm : y.name = "<init>") (hd' : d' + 1 ≤ d) (hlen : As.length = k) (hle : M.1 ≤ M'.1) (hlim : M'.1 ≤ lim) (hst : st0 = As.reverse ++ rf X.1 p :: st) (hcat : (st.map fun v => v.category).sum ≤ 8) (hd : decode cc pc = .ok (.invokespecial i, 3)) (kk : WS X M' (pc + 3) loc (r.toList ++ st)) : WS X M pc loc st0 := by
  obtain ⟨⟨l, D, cy, b, adK, adV⟩, p0, e, R, s, m, args, below, meth, c, Q, n0, nL⟩ := X
  obtain ⟨hx, hb, hml, hown, hts, hK, hlocks, hsz, hE, hfr, hlo, hce, hsl, hw⟩ := O
  intro H locs ls h0 hP hS hl
  refine ws_size hsz (by omega) hP hS (fun hH => ?_)
  refine run_on (D := D) (cy := cy) (b := b) (adK := adK) (adV := adV) h0 hle hS (va_runI (As := As) (rest := st) ⟨hx, hb, hml, hown, hts⟩ hM ⟨(callB_of (rm := rmA d' (M'.1 - M.1) (Zs M'.1 - Zs M.1)) k hts (gi_all hy.2.1) rfl rfl rfl (hts _ hy.2.2.1) (hts _ hlk) hy.1 ⟨by show d' + 1 ≤ R.frames; omega, by have := hy.2.2.2; show 8 + (n + 11) + 32 * d' ≤ R.locals; omega⟩), hnm, hts _ hin⟩ ⟨blind, fun U hU hW => ⟨rfl, by rw [hU]; exact hH, by rw [hU]; exact hP, va_K.moved hW.alike hK, by rw [hU]; exact (hE.kept (fun a g1 g2 => hS.2.1 a g1 g2)).warm hW⟩⟩ rfl hlen hl.1 hst (lv_room hcat) hd ⟨by omega, by have := Zs_mono h0; have := Zs_mono hle; have := Zs_mono hlim; omega⟩) (fun H1 locs1 a1 a2 a3 => kk H1 locs1 ls a1 a2 a3 hl)
theorem s_callIN {X : CT} {cc : ByteArray} {own : String} {d lim w : Nat} (O : OKX X cc own d lim w) {M : MM} {pc : Nat} {loc : List (Nat × Value)} {st : List Value} {y : MethodName} {cy' : ByteArray} {n k i d' : Nat} {As st0 : List Value} {M' : MM} {r : Option Value} {p : Nat} {host : String} (hM : Ct X.1 y cy' n none d' (rf X.1 p :: As) M r M') (hy : CallY y cy' n none k) (hlk : Cond.methodLinkNest own i y host ∈ nestL) (hin : Cond.instanceMethod y ∈ tb) (hnm : y.name = "<init>") (hd' : d' + 1 ≤ d) (hlen : As.length = k) (hle : M.1 ≤ M'.1) (hlim : M'.1 ≤ lim) (hst : st0 = As.reverse ++ rf X.1 p :: st) (hcat : (st.map fun v => v.category).sum ≤ 8) (hd : decode cc pc = .ok (.invokespecial i, 3)) (kk : WS X M' (pc + 3) loc (r.toList ++ st)) : WS X M pc loc st0 := by
  obtain ⟨⟨l, D, cy, b, adK, adV⟩, p0, e, R, s, m, args, below, meth, c, Q, n0, nL⟩ := X
  obtain ⟨hx, hb, hml, hown, hts, hK, hlocks, hsz, hE, hfr, hlo, hce, hsl, hw⟩ := O
  intro H locs ls h0 hP hS hl
  refine ws_size hsz (by omega) hP hS (fun hH => ?_)
  refine run_on (D := D) (cy := cy) (b := b) (adK := adK) (adV := adV) h0 hle hS (va_runIN (Ts := tb) (As := As) (rest := st) ⟨hx, hb, hml, hown, hts⟩ hM ⟨va_cnB (rm := rmA d' (M'.1 - M.1) (Zs M'.1 - Zs M.1)) k hts (gi_all hy.2.1) rfl rfl rfl (hE.2.2.2.2.2.2.2.2 _ hlk) (hts _ hy.2.2.1) hy.1 ⟨by show d' + 1 ≤ R.frames; omega, by have := hy.2.2.2; show 8 + (n + 11) + 32 * d' ≤ R.locals; omega⟩, hnm, hts _ hin⟩ ⟨blind, fun U hU hW => ⟨rfl, by rw [hU]; exact hH, by rw [hU]; exact hP, va_K.moved hW.alike hK, by rw [hU]; exact (hE.kept (fun a g1 g2 => hS.2.1 a g1 g2)).warm hW⟩⟩ rfl hlen hl.1 hst (lv_room hcat) hd ⟨by omega, by have := Zs_mono h0; have := Zs_mono hle; have := Zs_mono hlim; omega⟩) (fun H1 locs1 a1 a2 a3 => kk H1 locs1 ls a1 a2 a3 hl)
theorem s_objInit {X : CT} {cc : ByteArray} {own : String} {d lim w : Nat} (O : OKX X cc own d lim w) {M : MM} {pc : Nat} {loc : List (Nat × Value)} {st : List Value} {i p : Nat} (hlk : Cond.methodLink own i Lib.objectInit ∈ tb) (h1 : Cond.instanceMethod Lib.objectInit ∈ tb) (h2 : Cond.code Lib.objectInit ⟨#[0xb1]⟩ 1 none ∈ tb) (hd1 : 1 ≤ d) (hcat : (st.map fun v => v.category).sum ≤ 8) (hd : decode cc pc = .ok (.invokespecial i, 3)) (kk : WS X M (pc + 3) loc st) : WS X M pc loc (rf X.1 p :: st) := by
  obtain ⟨⟨l, D, cy, b, adK, adV⟩, p0, e, R, s, m, args, below, meth, c, Q, n0, nL⟩ := X
  obtain ⟨hx, hb, hml, hown, hts, hK, hlocks, hsz, hE, hfr, hlo, hce, hsl, hw⟩ := O
  intro H locs ls h0 hP hS hl
  exact W.objInit hx hb hown (hts _ hlk) (hts _ h1) (hts _ h2) rfl (by rw [hml]; exact hl.1) rfl hd (by omega) (by show 2 * 0 + (st.map fun v => v.category).sum + 12 ≤ R.locals; omega) (kk H locs ls h0 hP hS hl)
def RTX (X : CT) (ret : Option FieldType) (r : Option Value) (M' : MM) : Prop := match X with
  | (G, _, _, _, s, _, args, below, meth, _, Q, n0, _) => Q = MQ below (QcA G r M') args s (M'.1 - n0) (Zs M'.1 - Zs n0) (fun q : Nat => G.2.2.2.1 ≤ q) ∧ meth.sig.returnType = ret
theorem s_iret {X : CT} {cc : ByteArray} {own : String} {d lim w : Nat} (O : OKX X cc own d lim w) {M : MM} {pc : Nat} {loc : List (Nat × Value)}  {v : Int32} (T : RTX X (some .int) (some (.int v)) M) (hd : decode cc pc = .ok (.ireturn, 1)) : WS X M pc loc [.int v] := by
  obtain ⟨⟨l, D, cy, b, adK, adV⟩, p0, e, R, s, m, args, below, meth, c, Q, n0, nL⟩ := X
  obtain ⟨hx, hb, hml, hown, hts, hK, hlocks, hsz, hE, hfr, hlo, hce, hsl, hw⟩ := O
  intro H locs ls h0 hP hS hl
  obtain ⟨hQ, hr⟩ := T
  subst hQ
  refine ws_size hsz (by omega) hP hS (fun hH => ?_)
  exact W.iret hx hb hr (fun t ht hW => ⟨rfl, by rw [ht]; exact hH, by rw [ht]; exact hP, hS.F ht⟩) hS.2.2 hd hlocks
theorem s_zret {X : CT} {cc : ByteArray} {own : String} {d lim w : Nat} (O : OKX X cc own d lim w) {M : MM} {pc : Nat} {loc : List (Nat × Value)}  {v : Int32} (h01 : v = 0 ∨ v = 1) (T : RTX X (some .boolean) (some (.int v)) M) (hd : decode cc pc = .ok (.ireturn, 1)) : WS X M pc loc [.int v] := by
  obtain ⟨⟨l, D, cy, b, adK, adV⟩, p0, e, R, s, m, args, below, meth, c, Q, n0, nL⟩ := X
  obtain ⟨hx, hb, hml, hown, hts, hK, hlocks, hsz, hE, hfr, hlo, hce, hsl, hw⟩ := O
  intro H locs ls h0 hP hS hl
  obtain ⟨hQ, hr⟩ := T
  subst hQ
  refine ws_size hsz (by omega) hP hS (fun hH => ?_)
  exact W.zret hx hb hr (by rcases h01 with rfl | rfl <;> rfl) (fun t ht hW => ⟨rfl, by rw [ht]; exact hH, by rw [ht]; exact hP, hS.F ht⟩) hS.2.2 hd hlocks
theorem s_lret {X : CT} {cc : ByteArray} {own : String} {d lim w : Nat} (O : OKX X cc own d lim w) {M : MM} {pc : Nat} {loc : List (Nat × Value)}  {v : Int64} (T : RTX X (some .long) (some (.long v)) M) (hd : decode cc pc = .ok (.lreturn, 1)) : WS X M pc loc [.long v] := by
  obtain ⟨⟨l, D, cy, b, adK, adV⟩, p0, e, R, s, m, args, below, meth, c, Q, n0, nL⟩ := X
  obtain ⟨hx, hb, hml, hown, hts, hK, hlocks, hsz, hE, hfr, hlo, hce, hsl, hw⟩ := O
  intro H locs ls h0 hP hS hl
  obtain ⟨hQ, hr⟩ := T
  subst hQ
  refine ws_size hsz (by omega) hP hS (fun hH => ?_)
  exact W.lret hx hb hr (fun t ht hW => ⟨rfl, by rw [ht]; exact hH, by rw [ht]; exact hP, hS.F ht⟩) hS.2.2 hd hlocks
theorem s_vret {X : CT} {cc : ByteArray} {own : String} {d lim w : Nat} (O : OKX X cc own d lim w) {M : MM} {pc : Nat} {loc : List (Nat × Value)}   (T : RTX X (none) (none) M) (hd : decode cc pc = .ok (.return_, 1)) : WS X M pc loc [] := by
  obtain ⟨⟨l, D, cy, b, adK, adV⟩, p0, e, R, s, m, args, below, meth, c, Q, n0, nL⟩ := X
  obtain ⟨hx, hb, hml, hown, hts, hK, hlocks, hsz, hE, hfr, hlo, hce, hsl, hw⟩ := O
  intro H locs ls h0 hP hS hl
  obtain ⟨hQ, hr⟩ := T
  subst hQ
  refine ws_size hsz (by omega) hP hS (fun hH => ?_)
  exact W.vret hx hb hr (fun t ht hW => ⟨rfl, by rw [ht]; exact hH, by rw [ht]; exact hP, hS.F ht⟩) hS.2.2 hd hlocks
theorem ct_of {G : GG} {y : MethodName} {cc : ByteArray} {n : Nat} {ret : Option FieldType} {d : Nat} {av : List Value} {M : MM} {r : Option Value} {M' : MM} (hy : plainName y.cls = true) (hlen : (lg_sl av).length ≤ n) (body : ∀ X : CT, X.1 = G → OKX X cc y.cls d M'.1 n → RTX X ret r M' → (y.name = "<init>" → isInit X) → WS X M 0 (lv_args 0 av) []) : Ct G y cc n ret d av M r M' := by
  obtain ⟨l, D, cy, b, adK, adV⟩ := G
  refine Met.ofW (cc := cc) (maxL := n) (ret := ret) hy rfl ?_
  intro p e s m args below meth c s₁ B hml hv
  obtain ⟨rfl, hsz, hP, hK, hE⟩ := hv
  have hts := atoms_spec (ws := .code y cc n ret :: tb) B.pre
  have hw := body ((l, D, cy, b, adK, adV), p, e, (headSpec (.code y cc n ret :: tb) (rmA d (M'.1 - M.1) (Zs M'.1 - Zs M.1))).room, s, m, av.toArray, below, meth, c, _, M.1, n) rfl ⟨B.exec, B.bytes, hml, findClass_of_methodNamed B.named, fun w h => hts w (List.mem_cons_of_mem _ h), hK, B.notSynchronized, hsz, hE, Nat.le_refl _, Nat.le_refl _, Nat.le_refl _, Nat.le_refl _, rfl⟩ ⟨rfl, B.returns⟩ (fun h => ((name_of_methodNamed B.named B.method).1).trans h)
  rw [lg_entry_eq]
  have h2 := hw s.heap [] _ (Nat.le_refl _) hP va_S.rf (lv_entry av hlen)
  rw [Nat.sub_self, Nat.sub_self] at h2
  exact h2
theorem new_on {p : Program} {l : Launch} {e : Env} {R : Room} {s : State} {m : MethodId} {args : Array Value} {below : List Frame} {meth : Method} {c : Code} {H1 : Heap} {locs : List Loc} {Q : State → Prop} {g : JFrame} {D : va_G} {cy : Nat → ClassId} {b n0 k z q : Nat} {M : MM} {x : va_E} (hsz : s.heap.size = b + n0) (hk : n0 + k = M.1 + 1) (hP1 : va_P D vwCl (wl b cy M ++ [(q, x)]) H1) (hD1 : va_D (fun q : Nat => b ≤ q) (wl b cy M ++ [(q, x)]))
    (kk : q = b + M.1 → W p l e R s m args below meth c H1 locs k z Q g) : W p l e R s m args below meth c H1 locs k z Q g := by
  intro T hT X
  have h1 := X.heapSize
  rw [hT, hsz] at h1
  have hlen : (wl b cy M).length = M.1 := by simp [wl]
  have hq : (wl b cy M ++ [(q, x)])[M.1]? = some (q, x) := by
    rw [List.getElem?_append_right (by omega), hlen, Nat.sub_self]
    rfl
  have h2 : q < H1.size := (hP1 M.1 _ hq).lt
  have h3 : b ≤ q := hD1.2 M.1 _ hq
  have h4 : ¬ q < b + M.1 := by
    intro h
    have hi : q - b < M.1 := by omega
    have hg : (wl b cy M ++ [(q, x)])[q - b]? = some (b + (q - b), cel b cy M (q - b)) := by
      rw [List.getElem?_append_left (by omega), wl_get hi]
    have := hD1.1 (q - b) M.1 _ _ hg hq (by show b + (q - b) = q; omega)
    omega
  exact kk (by omega) T hT X
theorem gnP {M : MM} : gI (nP M) M.1 = (fun _ => 0) ∧ gJ (nP M) M.1 = (fun _ => 0) ∧ gR (nP M) M.1 = (fun _ => none) := by
  refine ⟨?_, ?_, ?_⟩ <;> funext j <;> simp [gI, gJ, gR, nP]
theorem s_new {X : CT} {cc : ByteArray} {own : String} {d lim w : Nat} (O : OKX X cc own d lim w) {M : MM} {pc : Nat} {loc : List (Nat × Value)} {st : List Value} {i : Nat} {M' : MM} {ci : Nat} {C : String} {T : u_T} {N : Nat} {ty : Nat → FieldType} (HK : KCok ci C T N ty) (hdf : ∀ j, j < N → defaultValue (ty j) = vp_V ((fl ci).mapIdx (fun _ t => if t = 0 then Value.int 0 else if t = 1 then Value.long 0 else .null)) j) (h1 : Cond.classLink own i C ∈ tb) (h2 : Cond.instantiable C N ∈ tb) (h3 : Cond.initialized C ∈ tb) (hv : nObj M lim ci = some M') (hd : decode cc pc = .ok (.new i, 3)) (kk : WS X M' (pc + 3) loc (rf X.1 M.1 :: st)) : WS X M pc loc st := by
  obtain ⟨⟨l, D, cy, b, adK, adV⟩, p0, e, R, s, m, args, below, meth, c, Q, n0, nL⟩ := X
  obtain ⟨hx, hb, hml, hown, hts, hK, hlocks, hsz, hE, hfr, hlo, hce, hsl, hw⟩ := O
  intro H locs ls h0 hP hS hl
  obtain ⟨hc8, hcl, hin, hty, hnm, hfl, hdecl⟩ := HK
  obtain ⟨⟨hkd, hlm⟩, hv⟩ := gd hv
  cases hv
  have hz1 : Zs (M.1 + 1) = Zs M.1 + N := by
    show Zs M.1 + szP M.1 = _
    rw [szP, hkd, if_pos hc8, hfl]
  have zm := Zs_mono hlm
  have z0 := Zs_mono h0
  refine va_new (ci := ci) (C := C) (T := T) (N := N) hx hb hts hin ty hty hown (hts _ h1) (hts _ h2) (hts _ h3) hK hP wl_D hS (fun q hq => by show b ≤ q; omega) hcl hdf (by omega) (by omega) hd (fun q H1 hP1 hD1 hS1 => ?_)
  refine new_on (M := M) hsz (by omega) hP1 hD1 (fun hq => ?_)
  subst hq
  have e1 : cel b cy (nP M) M.1 = .inr (ci, (fl ci).mapIdx (fun _ t => if t = 0 then Value.int 0 else if t = 1 then Value.long 0 else .null)) := by
    rw [cel_obj hkd hc8]
    congr 2
    apply List.ext_getElem?
    intro j
    simp only [List.getElem?_mapIdx]
    cases (fl ci)[j]? with
    | none => rfl
    | some t => simp [cv, gnP.1, gnP.2.1, gnP.2.2, va_rf]
  rw [wl_push (M' := nP M) rfl e1 (fun q h => cel_nP h)] at hP1
  have k1 : M.1 - n0 + 1 = (nP M).1 - n0 := by show _ = M.1 + 1 - n0; omega
  have k2 : Zs M.1 - Zs n0 + N = Zs (nP M).1 - Zs n0 := by show _ = Zs (M.1 + 1) - Zs n0; omega
  rw [k1, k2]
  exact kk H1 locs ls (by show n0 ≤ M.1 + 1; omega) hP1 hS1 hl
theorem s_newaI {X : CT} {cc : ByteArray} {own : String} {d lim w : Nat} (O : OKX X cc own d lim w) {M : MM} {pc : Nat} {loc : List (Nat × Value)} {st : List Value} {n : Int32} {M' : MM} (hac : Cond.arrayClass .int ∈ tb) (hsm : ln M.1 ≤ 100000) (hv : nArr M lim 8 n = some M') (hd : decode cc pc = .ok (.newarray .int, 2)) (kk : WS X M' (pc + 2) loc (rf X.1 M.1 :: st)) : WS X M pc loc (.int n :: st) := by
  obtain ⟨⟨l, D, cy, b, adK, adV⟩, p0, e, R, s, m, args, below, meth, c, Q, n0, nL⟩ := X
  obtain ⟨hx, hb, hml, hown, hts, hK, hlocks, hsz, hE, hfr, hlo, hce, hsl, hw⟩ := O
  intro H locs ls h0 hP hS hl
  obtain ⟨⟨hkd, hn0, hnl, hlm⟩, hv⟩ := gd hv
  cases hv
  have hz1 : Zs (M.1 + 1) = Zs M.1 + ln M.1 := by
    show Zs M.1 + szP M.1 = _
    rw [szP, hkd, if_neg (by decide)]
  have zm := Zs_mono hlm
  have z0 := Zs_mono h0
  refine va_newa (atype := .int) (ty := .int) (a0 := (ln M.1, .inl (fun _ => 0))) (N' := ln M.1) hx hb (hts _ hac) rfl hK hP wl_D hS (fun q hq => by show b ≤ q; omega) (fun cA => rfl) hn0 hnl (by show ln M.1 * 4 ≤ 536870912; omega) (by omega) (by omega) hd (fun q cA H1 hK1 hP1 hD1 hS1 => ?_)
  refine new_on (M := M) hsz (by omega) hP1 hD1 (fun hq => ?_)
  subst hq
  have hcA : cA = cy 8 := by
    have q1 : s.vm.findClass ("[" ++ (.int : FieldType).toString) = some cA := (hK1.2 6 (cA, .int) rfl).2
    have q2 : s.vm.findClass ("[" ++ (.int : FieldType).toString) = some (cy 8) := (hK.2 0 (cy 8, .int) rfl).2
    exact Option.some.inj (q1.symm.trans q2)
  subst hcA
  have e1 : cel b cy (nP M) M.1 = .inl (cy 8, (ln M.1, .inl (fun _ => 0))) := by
    rw [cel_I hkd]
    simp [gnP.1, gnP.2.1]
  rw [wl_push (M' := nP M) rfl e1 (fun q h => cel_nP h)] at hP1
  have k1 : M.1 - n0 + 1 = (nP M).1 - n0 := by show _ = M.1 + 1 - n0; omega
  have k2 : Zs M.1 - Zs n0 + ln M.1 = Zs (nP M).1 - Zs n0 := by show _ = Zs (M.1 + 1) - Zs n0; omega
  rw [k1, k2]
  exact kk H1 locs ls (by show n0 ≤ M.1 + 1; omega) hP1 hS1 hl
theorem s_newaJ {X : CT} {cc : ByteArray} {own : String} {d lim w : Nat} (O : OKX X cc own d lim w) {M : MM} {pc : Nat} {loc : List (Nat × Value)} {st : List Value} {n : Int32} {M' : MM} (hac : Cond.arrayClass .long ∈ tb) (hsm : ln M.1 ≤ 100000) (hv : nArr M lim 9 n = some M') (hd : decode cc pc = .ok (.newarray .long, 2)) (kk : WS X M' (pc + 2) loc (rf X.1 M.1 :: st)) : WS X M pc loc (.int n :: st) := by
  obtain ⟨⟨l, D, cy, b, adK, adV⟩, p0, e, R, s, m, args, below, meth, c, Q, n0, nL⟩ := X
  obtain ⟨hx, hb, hml, hown, hts, hK, hlocks, hsz, hE, hfr, hlo, hce, hsl, hw⟩ := O
  intro H locs ls h0 hP hS hl
  obtain ⟨⟨hkd, hn0, hnl, hlm⟩, hv⟩ := gd hv
  cases hv
  have hz1 : Zs (M.1 + 1) = Zs M.1 + ln M.1 := by
    show Zs M.1 + szP M.1 = _
    rw [szP, hkd, if_neg (by decide)]
  have zm := Zs_mono hlm
  have z0 := Zs_mono h0
  refine va_newa (atype := .long) (ty := .long) (a0 := (ln M.1, .inr (.inl (fun _ => 0)))) (N' := ln M.1) hx hb (hts _ hac) rfl hK hP wl_D hS (fun q hq => by show b ≤ q; omega) (fun cA => rfl) hn0 hnl (by show ln M.1 * 8 ≤ 536870912; omega) (by omega) (by omega) hd (fun q cA H1 hK1 hP1 hD1 hS1 => ?_)
  refine new_on (M := M) hsz (by omega) hP1 hD1 (fun hq => ?_)
  subst hq
  have hcA : cA = cy 9 := by
    have q1 : s.vm.findClass ("[" ++ (.long : FieldType).toString) = some cA := (hK1.2 6 (cA, .long) rfl).2
    have q2 : s.vm.findClass ("[" ++ (.long : FieldType).toString) = some (cy 9) := (hK.2 1 (cy 9, .long) rfl).2
    exact Option.some.inj (q1.symm.trans q2)
  subst hcA
  have e1 : cel b cy (nP M) M.1 = .inl (cy 9, (ln M.1, .inr (.inl (fun _ => 0)))) := by
    rw [cel_J hkd]
    simp [gnP.1, gnP.2.1]
  rw [wl_push (M' := nP M) rfl e1 (fun q h => cel_nP h)] at hP1
  have k1 : M.1 - n0 + 1 = (nP M).1 - n0 := by show _ = M.1 + 1 - n0; omega
  have k2 : Zs M.1 - Zs n0 + ln M.1 = Zs (nP M).1 - Zs n0 := by show _ = Zs (M.1 + 1) - Zs n0; omega
  rw [k1, k2]
  exact kk H1 locs ls (by show n0 ≤ M.1 + 1; omega) hP1 hS1 hl
theorem s_newaZ {X : CT} {cc : ByteArray} {own : String} {d lim w : Nat} (O : OKX X cc own d lim w) {M : MM} {pc : Nat} {loc : List (Nat × Value)} {st : List Value} {n : Int32} {M' : MM} (hac : Cond.arrayClass .boolean ∈ tb) (hsm : ln M.1 ≤ 100000) (hv : nArr M lim 10 n = some M') (hd : decode cc pc = .ok (.newarray .boolean, 2)) (kk : WS X M' (pc + 2) loc (rf X.1 M.1 :: st)) : WS X M pc loc (.int n :: st) := by
  obtain ⟨⟨l, D, cy, b, adK, adV⟩, p0, e, R, s, m, args, below, meth, c, Q, n0, nL⟩ := X
  obtain ⟨hx, hb, hml, hown, hts, hK, hlocks, hsz, hE, hfr, hlo, hce, hsl, hw⟩ := O
  intro H locs ls h0 hP hS hl
  obtain ⟨⟨hkd, hn0, hnl, hlm⟩, hv⟩ := gd hv
  cases hv
  have hz1 : Zs (M.1 + 1) = Zs M.1 + ln M.1 := by
    show Zs M.1 + szP M.1 = _
    rw [szP, hkd, if_neg (by decide)]
  have zm := Zs_mono hlm
  have z0 := Zs_mono h0
  refine va_newa (atype := .boolean) (ty := .boolean) (a0 := (ln M.1, .inl (fun _ => 0))) (N' := ln M.1) hx hb (hts _ hac) rfl hK hP wl_D hS (fun q hq => by show b ≤ q; omega) (fun cA => rfl) hn0 hnl (by show ln M.1 * 1 ≤ 536870912; omega) (by omega) (by omega) hd (fun q cA H1 hK1 hP1 hD1 hS1 => ?_)
  refine new_on (M := M) hsz (by omega) hP1 hD1 (fun hq => ?_)
  subst hq
  have hcA : cA = cy 10 := by
    have q1 : s.vm.findClass ("[" ++ (.boolean : FieldType).toString) = some cA := (hK1.2 6 (cA, .boolean) rfl).2
    have q2 : s.vm.findClass ("[" ++ (.boolean : FieldType).toString) = some (cy 10) := (hK.2 2 (cy 10, .boolean) rfl).2
    exact Option.some.inj (q1.symm.trans q2)
  subst hcA
  have e1 : cel b cy (nP M) M.1 = .inl (cy 10, (ln M.1, .inl (fun _ => 0))) := by
    rw [cel_Z hkd]
    simp [gnP.1, gnP.2.1]
  rw [wl_push (M' := nP M) rfl e1 (fun q h => cel_nP h)] at hP1
  have k1 : M.1 - n0 + 1 = (nP M).1 - n0 := by show _ = M.1 + 1 - n0; omega
  have k2 : Zs M.1 - Zs n0 + ln M.1 = Zs (nP M).1 - Zs n0 := by show _ = Zs (M.1 + 1) - Zs n0; omega
  rw [k1, k2]
  exact kk H1 locs ls (by show n0 ≤ M.1 + 1; omega) hP1 hS1 hl
theorem s_newq11 {X : CT} {cc : ByteArray} {own : String} {d lim w : Nat} (O : OKX X cc own d lim w) {M : MM} {pc : Nat} {loc : List (Nat × Value)} {st : List Value} {i : Nat} {n : Int32} {M' : MM} (hcl : Cond.classLink own i RX0 ∈ tb) (hsm : ln M.1 ≤ 100000) (hv : nArr M lim 11 n = some M') (hd : decode cc pc = .ok (.anewarray i, 3)) (kk : WS X M' (pc + 3) loc (rf X.1 M.1 :: st)) : WS X M pc loc (.int n :: st) := by
  obtain ⟨⟨l, D, cy, b, adK, adV⟩, p0, e, R, s, m, args, below, meth, c, Q, n0, nL⟩ := X
  obtain ⟨hx, hb, hml, hown, hts, hK, hlocks, hsz, hE, hfr, hlo, hce, hsl, hw⟩ := O
  intro H locs ls h0 hP hS hl
  obtain ⟨⟨hkd, hn0, hnl, hlm⟩, hv⟩ := gd hv
  cases hv
  have hz1 : Zs (M.1 + 1) = Zs M.1 + ln M.1 := by
    show Zs M.1 + szP M.1 = _
    rw [szP, hkd, if_neg (by decide)]
  have zm := Zs_mono hlm
  have z0 := Zs_mono h0
  refine va_newq (C := RX0) (N' := ln M.1) hx hb hown (hts _ hcl) hE.1 hK hP wl_D hS (fun q hq => by show b ≤ q; omega) hn0 hnl (by omega) (by omega) (by omega) hd (fun q cA H1 hK1 hP1 hD1 hS1 => ?_)
  refine new_on (M := M) hsz (by omega) hP1 hD1 (fun hq => ?_)
  subst hq
  have hcA : cA = cy 11 := by
    obtain ⟨_, _, _, _, _, q1⟩ := (hK1.2 6 (cA, .object RX0) rfl).2
    obtain ⟨_, _, _, _, _, q2⟩ := (hK.2 3 (cy 11, .object RX0) rfl).2
    exact Option.some.inj (q1.symm.trans q2)
  subst hcA
  have e1 : cel b cy (nP M) M.1 = .inl (cy 11, ln M.1, .inr (.inr (.inr (.inr (fun _ => none))))) := by
    rw [cel_R hkd (by decide)]
    simp [gnP.2.2]
  rw [wl_push (M' := nP M) rfl e1 (fun q h => cel_nP h)] at hP1
  have k1 : M.1 - n0 + 1 = (nP M).1 - n0 := by show _ = M.1 + 1 - n0; omega
  have k2 : Zs M.1 - Zs n0 + ln M.1 = Zs (nP M).1 - Zs n0 := by show _ = Zs (M.1 + 1) - Zs n0; omega
  rw [k1, k2]
  exact kk H1 locs ls (by show n0 ≤ M.1 + 1; omega) hP1 hS1 hl
theorem s_newq12 {X : CT} {cc : ByteArray} {own : String} {d lim w : Nat} (O : OKX X cc own d lim w) {M : MM} {pc : Nat} {loc : List (Nat × Value)} {st : List Value} {i : Nat} {n : Int32} {M' : MM} (hcl : Cond.classLink own i RX2 ∈ tb) (hsm : ln M.1 ≤ 100000) (hv : nArr M lim 12 n = some M') (hd : decode cc pc = .ok (.anewarray i, 3)) (kk : WS X M' (pc + 3) loc (rf X.1 M.1 :: st)) : WS X M pc loc (.int n :: st) := by
  obtain ⟨⟨l, D, cy, b, adK, adV⟩, p0, e, R, s, m, args, below, meth, c, Q, n0, nL⟩ := X
  obtain ⟨hx, hb, hml, hown, hts, hK, hlocks, hsz, hE, hfr, hlo, hce, hsl, hw⟩ := O
  intro H locs ls h0 hP hS hl
  obtain ⟨⟨hkd, hn0, hnl, hlm⟩, hv⟩ := gd hv
  cases hv
  have hz1 : Zs (M.1 + 1) = Zs M.1 + ln M.1 := by
    show Zs M.1 + szP M.1 = _
    rw [szP, hkd, if_neg (by decide)]
  have zm := Zs_mono hlm
  have z0 := Zs_mono h0
  refine va_newq (C := RX2) (N' := ln M.1) hx hb hown (hts _ hcl) hE.2.1 hK hP wl_D hS (fun q hq => by show b ≤ q; omega) hn0 hnl (by omega) (by omega) (by omega) hd (fun q cA H1 hK1 hP1 hD1 hS1 => ?_)
  refine new_on (M := M) hsz (by omega) hP1 hD1 (fun hq => ?_)
  subst hq
  have hcA : cA = cy 12 := by
    obtain ⟨_, _, _, _, _, q1⟩ := (hK1.2 6 (cA, .object RX2) rfl).2
    obtain ⟨_, _, _, _, _, q2⟩ := (hK.2 4 (cy 12, .object RX2) rfl).2
    exact Option.some.inj (q1.symm.trans q2)
  subst hcA
  have e1 : cel b cy (nP M) M.1 = .inl (cy 12, ln M.1, .inr (.inr (.inr (.inr (fun _ => none))))) := by
    rw [cel_R hkd (by decide)]
    simp [gnP.2.2]
  rw [wl_push (M' := nP M) rfl e1 (fun q h => cel_nP h)] at hP1
  have k1 : M.1 - n0 + 1 = (nP M).1 - n0 := by show _ = M.1 + 1 - n0; omega
  have k2 : Zs M.1 - Zs n0 + ln M.1 = Zs (nP M).1 - Zs n0 := by show _ = Zs (M.1 + 1) - Zs n0; omega
  rw [k1, k2]
  exact kk H1 locs ls (by show n0 ≤ M.1 + 1; omega) hP1 hS1 hl
theorem s_newq13 {X : CT} {cc : ByteArray} {own : String} {d lim w : Nat} (O : OKX X cc own d lim w) {M : MM} {pc : Nat} {loc : List (Nat × Value)} {st : List Value} {i : Nat} {n : Int32} {M' : MM} (hcl : Cond.classLink own i RX5 ∈ tb) (hsm : ln M.1 ≤ 100000) (hv : nArr M lim 13 n = some M') (hd : decode cc pc = .ok (.anewarray i, 3)) (kk : WS X M' (pc + 3) loc (rf X.1 M.1 :: st)) : WS X M pc loc (.int n :: st) := by
  obtain ⟨⟨l, D, cy, b, adK, adV⟩, p0, e, R, s, m, args, below, meth, c, Q, n0, nL⟩ := X
  obtain ⟨hx, hb, hml, hown, hts, hK, hlocks, hsz, hE, hfr, hlo, hce, hsl, hw⟩ := O
  intro H locs ls h0 hP hS hl
  obtain ⟨⟨hkd, hn0, hnl, hlm⟩, hv⟩ := gd hv
  cases hv
  have hz1 : Zs (M.1 + 1) = Zs M.1 + ln M.1 := by
    show Zs M.1 + szP M.1 = _
    rw [szP, hkd, if_neg (by decide)]
  have zm := Zs_mono hlm
  have z0 := Zs_mono h0
  refine va_newq (C := RX5) (N' := ln M.1) hx hb hown (hts _ hcl) hE.2.2.1 hK hP wl_D hS (fun q hq => by show b ≤ q; omega) hn0 hnl (by omega) (by omega) (by omega) hd (fun q cA H1 hK1 hP1 hD1 hS1 => ?_)
  refine new_on (M := M) hsz (by omega) hP1 hD1 (fun hq => ?_)
  subst hq
  have hcA : cA = cy 13 := by
    obtain ⟨_, _, _, _, _, q1⟩ := (hK1.2 6 (cA, .object RX5) rfl).2
    obtain ⟨_, _, _, _, _, q2⟩ := (hK.2 5 (cy 13, .object RX5) rfl).2
    exact Option.some.inj (q1.symm.trans q2)
  subst hcA
  have e1 : cel b cy (nP M) M.1 = .inl (cy 13, ln M.1, .inr (.inr (.inr (.inr (fun _ => none))))) := by
    rw [cel_R hkd (by decide)]
    simp [gnP.2.2]
  rw [wl_push (M' := nP M) rfl e1 (fun q h => cel_nP h)] at hP1
  have k1 : M.1 - n0 + 1 = (nP M).1 - n0 := by show _ = M.1 + 1 - n0; omega
  have k2 : Zs M.1 - Zs n0 + ln M.1 = Zs (nP M).1 - Zs n0 := by show _ = Zs (M.1 + 1) - Zs n0; omega
  rw [k1, k2]
  exact kk H1 locs ls (by show n0 ≤ M.1 + 1; omega) hP1 hS1 hl
