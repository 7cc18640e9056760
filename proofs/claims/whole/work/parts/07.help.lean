/-! helpers of the programmed walks -/
theorem ifp {α : Type} {c : Prop} [inst : Decidable c] {a b r : α} (hc : c) (h : (if c then a else b) = r) : a = r := by rwa [if_pos hc] at h
theorem ifn {α : Type} {c : Prop} [inst : Decidable c] {a b r : α} (hc : ¬ c) (h : (if c then a else b) = r) : b = r := by rwa [if_neg hc] at h
def KI {α β : Type} (K : α → Prop) (W : β → Prop) : α ⊕ β → Prop
  | .inl a => K a
  | .inr b => W b
theorem mpi {α β : Type} {e : Option α} {o : α ⊕ β} (h : e.map Sum.inl = some o) : ∃ q, e = some q ∧ o = .inl q := by
  cases e with
  | none => cases h
  | some q => cases h; exact ⟨q, rfl, rfl⟩
theorem i32_ne {x : Int32} {k : Int32} (h : ¬ x = k) : x.toInt ≠ k.toInt := fun e => h (Int32.toInt_inj.mp e)
theorem kcast {α : Type} {K : α → Prop} {a o : α} (h : some a = some o) (hK : K o) : K a := Option.some.inj h ▸ hK
theorem i32_neK {x k : Int32} {n : Int} (hk : k.toInt = n) (h : ¬ x = k) : x.toInt ≠ n := fun e => h (Int32.toInt_inj.mp (e.trans hk.symm))
theorem wfI_n {M M' : MM} {p c k : Nat} {v : Int32} (h : wfI M p c k v = some M') : M'.1 = M.1 := by
  obtain ⟨_, h⟩ := gd h
  cases h
  rfl
theorem wfZ_n {M M' : MM} {p c k : Nat} {v : Int32} (h : wfZ M p c k v = some M') : M'.1 = M.1 := by
  obtain ⟨_, h⟩ := gd h
  cases h
  rfl
theorem wfJ_n {M M' : MM} {p c k : Nat} {v : Int64} (h : wfJ M p c k v = some M') : M'.1 = M.1 := by
  obtain ⟨_, h⟩ := gd h
  cases h
  rfl
theorem wfR_n {M M' : MM} {p c k v : Nat} (h : wfR M p c k v = some M') : M'.1 = M.1 := by
  obtain ⟨_, h⟩ := gd h
  cases h
  rfl
theorem waI_n {M M' : MM} {p : Nat} {i v : Int32} (h : waI M p i v = some M') : M'.1 = M.1 := by
  obtain ⟨_, h⟩ := gd h
  cases h
  rfl
theorem waZ_n {M M' : MM} {p : Nat} {i v : Int32} (h : waZ M p i v = some M') : M'.1 = M.1 := by
  obtain ⟨_, h⟩ := gd h
  cases h
  rfl
theorem waJ_n {M M' : MM} {p : Nat} {i : Int32} {v : Int64} (h : waJ M p i v = some M') : M'.1 = M.1 := by
  obtain ⟨_, h⟩ := gd h
  cases h
  rfl
theorem waR_n {M M' : MM} {p c ce : Nat} {i : Int32} {v : Nat} (h : waR M p c ce i v = some M') : M'.1 = M.1 := by
  obtain ⟨_, h⟩ := gd h
  cases h
  rfl
theorem nObj_n {M M' : MM} {lim c : Nat} (h : nObj M lim c = some M') : M'.1 ≤ lim := by
  obtain ⟨g, h⟩ := gd h
  cases h
  exact g.2
theorem nArr_n {M M' : MM} {lim c : Nat} {i : Int32} (h : nArr M lim c i = some M') : M'.1 ≤ lim := by
  obtain ⟨g, h⟩ := gd h
  cases h
  exact g.2.2.2
theorem ln_small (p : Nat) : ln p ≤ 100000 := by
  have key : ∀ (l : List Nat), (∀ x ∈ l, x ≤ 100000) → ∀ p, l.getD p 0 ≤ 100000 := by
    intro l hl p
    rw [List.getD_eq_getElem?_getD]
    cases h : l[p]? with
    | none => exact Nat.zero_le _
    | some x => exact hl x (List.mem_of_getElem? h)
  exact key lnL (by decide) p
def sf (G : GG) (i : Nat) : Value := .ref (G.2.2.2.2.1 i)
theorem s_aload_nS {X : CT} {cc : ByteArray} {own : String} {d lim w : Nat} (O : OKX X cc own d lim w) {M : MM} {pc : Nat} {loc : List (Nat × Value)} {st : List Value} {k : Fin 4} {i x : Nat} (hd : decode cc pc = .ok (.aload_n k, 1)) (hi : (k : Nat) = i) (j : Nat) (hj : loc[j]? = some (i, sf X.1 x)) (kk : WS X M (pc + 1) loc (sf X.1 x :: st)) : WS X M pc loc st := by
  obtain ⟨⟨l, D, cy, b, adK, adV⟩, p0, e, R, s, m, args, below, meth, c, Q, n0, nL⟩ := X
  obtain ⟨hx, hb, hml, hown, hts, hK, hlocks, hsz, hE, hfr, hlo, hce, hsl, hw⟩ := O
  intro H locs ls h0 hP hS hl
  exact lv_aload_n hx hb hd hi (lv_at hl j hj) (kk H locs ls h0 hP hS hl)
theorem s_ldcS0 {X : CT} {cc : ByteArray} {d lim w : Nat} (O : OKX X cc RX3 d lim w) {M : MM} {pc : Nat} {loc : List (Nat × Value)} {st : List Value} (hd : decode cc pc = .ok (.ldc 38, 2)) (kk : WS X M (pc + 2) loc (sf X.1 0 :: st)) : WS X M pc loc st := by
  obtain ⟨⟨l, D, cy, b, adK, adV⟩, p0, e, R, s, m, args, below, meth, c, Q, n0, nL⟩ := X
  obtain ⟨hx, hb, hml, hown, hts, hK, hlocks, hsz, hE, hfr, hlo, hce, hsl, hw⟩ := O
  intro H locs ls h0 hP hS hl
  exact va_ldcS hx hb hown hE.2.2.2.1 hd (kk H locs ls h0 hP hS hl)
theorem s_ldcS1 {X : CT} {cc : ByteArray} {d lim w : Nat} (O : OKX X cc RX3 d lim w) {M : MM} {pc : Nat} {loc : List (Nat × Value)} {st : List Value} (hd : decode cc pc = .ok (.ldc 44, 2)) (kk : WS X M (pc + 2) loc (sf X.1 1 :: st)) : WS X M pc loc st := by
  obtain ⟨⟨l, D, cy, b, adK, adV⟩, p0, e, R, s, m, args, below, meth, c, Q, n0, nL⟩ := X
  obtain ⟨hx, hb, hml, hown, hts, hK, hlocks, hsz, hE, hfr, hlo, hce, hsl, hw⟩ := O
  intro H locs ls h0 hP hS hl
  exact va_ldcS hx hb hown hE.2.2.2.2.1 hd (kk H locs ls h0 hP hS hl)
theorem ws_lim {p : Program} {l : Launch} {e : Env} {R : Room} {s : State} {m : MethodId} {args : Array Value} {below : List Frame} {meth : Method} {c : Code} {H : Heap} {locs : List Loc} {Q : State → Prop} {g : JFrame} {D : va_G} {cy : Nat → ClassId} {b n0 lim : Nat} {M : MM} (hsz : s.heap.size = b + n0) (h0 : n0 ≤ M.1) (hP : va_P D vwCl (wl b cy M) H) (hS : va_S (fun q : Nat => b ≤ q) s.heap H locs) (hce : lim - n0 ≤ R.cells) (hsl : Zs lim - Zs n0 ≤ R.slots)
    (kk : M.1 - n0 ≤ R.cells → Zs M.1 - Zs n0 ≤ R.slots → W p l e R s m args below meth c H locs (M.1 - n0) (Zs M.1 - Zs n0) Q g) (hlm : M.1 ≤ lim) : W p l e R s m args below meth c H locs (M.1 - n0) (Zs M.1 - Zs n0) Q g := by
  have := Zs_mono hlm
  exact kk (by omega) (by omega)
theorem s_mabs {X : CT} {cc : ByteArray} {own : String} {d lim w : Nat} (O : OKX X cc own d lim w) {M : MM} {pc : Nat} {loc : List (Nat × Value)} {st : List Value} {i : Nat} {x : Int32} (hlk : Cond.methodLink own i Lib.Math.abs.name ∈ tb) (hlm : M.1 ≤ lim) (hd1 : 1 ≤ d) (hcat : (st.map fun v => v.category).sum ≤ 8) (hd : decode cc pc = .ok (.invokestatic i, 3)) (kk : WS X M (pc + 3) loc (.int (if 0 ≤ x then x else 0 - x) :: st)) : WS X M pc loc (.int x :: st) := by
  obtain ⟨⟨l, D, cy, b, adK, adV⟩, p0, e, R, s, m, args, below, meth, c, Q, n0, nL⟩ := X
  obtain ⟨hx, hb, hml, hown, hts, hK, hlocks, hsz, hE, hfr, hlo, hce, hsl, hw⟩ := O
  intro H locs ls h0 hP hS hl
  have z1 := Zs_mono h0
  exact ws_lim (lim := lim) hsz h0 hP hS hce hsl (fun hc9 hs9 => va_mabs hx hb (by rw [hml]; exact hl.1.symm) hown (hts _ hlk) (hts _ m_abs1) (hts _ m_m) (hts _ m_abs2) (by omega) (by omega) hc9 hs9 hd (kk H locs ls h0 hP hS hl)) hlm
theorem s_mmax {X : CT} {cc : ByteArray} {own : String} {d lim w : Nat} (O : OKX X cc own d lim w) {M : MM} {pc : Nat} {loc : List (Nat × Value)} {st : List Value} {i : Nat} {x y : Int32} (hlk : Cond.methodLink own i Lib.Math.max.name ∈ tb) (hlm : M.1 ≤ lim) (hd1 : 1 ≤ d) (hcat : (st.map fun v => v.category).sum ≤ 8) (hd : decode cc pc = .ok (.invokestatic i, 3)) (kk : WS X M (pc + 3) loc (.int (if x < y then y else x) :: st)) : WS X M pc loc (.int y :: .int x :: st) := by
  obtain ⟨⟨l, D, cy, b, adK, adV⟩, p0, e, R, s, m, args, below, meth, c, Q, n0, nL⟩ := X
  obtain ⟨hx, hb, hml, hown, hts, hK, hlocks, hsz, hE, hfr, hlo, hce, hsl, hw⟩ := O
  intro H locs ls h0 hP hS hl
  have z1 := Zs_mono h0
  exact ws_lim (lim := lim) hsz h0 hP hS hce hsl (fun hc9 hs9 => va_mmax hx hb (by rw [hml]; exact hl.1.symm) hown (hts _ hlk) (hts _ m_max1) (hts _ m_m) (hts _ m_max2) (by omega) (by omega) hc9 hs9 hd (kk H locs ls h0 hP hS hl)) hlm
theorem s_mmin {X : CT} {cc : ByteArray} {own : String} {d lim w : Nat} (O : OKX X cc own d lim w) {M : MM} {pc : Nat} {loc : List (Nat × Value)} {st : List Value} {i : Nat} {x y : Int32} (hlk : Cond.methodLink own i Lib.Math.min.name ∈ tb) (hlm : M.1 ≤ lim) (hd1 : 1 ≤ d) (hcat : (st.map fun v => v.category).sum ≤ 8) (hd : decode cc pc = .ok (.invokestatic i, 3)) (kk : WS X M (pc + 3) loc (.int (if y < x then y else x) :: st)) : WS X M pc loc (.int y :: .int x :: st) := by
  obtain ⟨⟨l, D, cy, b, adK, adV⟩, p0, e, R, s, m, args, below, meth, c, Q, n0, nL⟩ := X
  obtain ⟨hx, hb, hml, hown, hts, hK, hlocks, hsz, hE, hfr, hlo, hce, hsl, hw⟩ := O
  intro H locs ls h0 hP hS hl
  have z1 := Zs_mono h0
  exact ws_lim (lim := lim) hsz h0 hP hS hce hsl (fun hc9 hs9 => va_mmin hx hb (by rw [hml]; exact hl.1.symm) hown (hts _ hlk) (hts _ m_min1) (hts _ m_m) (hts _ m_min2) (by omega) (by omega) hc9 hs9 hd (kk H locs ls h0 hP hS hl)) hlm
theorem s_callVi {X : CT} {cc : ByteArray} {own : String} {d lim w : Nat} (O : OKX X cc own d lim w) {M : MM} {pc : Nat} {loc : List (Nat × Value)} {st : List Value} {y : MethodName} {cy' : ByteArray} {n k i d' : Nat} {ret : Option FieldType} {As st0 : List Value} {M' : MM} {v : Int32} {ci p : Nat} {C : String} {T : u_T} {N : Nat} {ty : Nat → FieldType} (HK : KCok ci C T N ty) (hM : Ct X.1 y cy' n ret d' (rf X.1 p :: As) M (some (.int v)) M') (hy : CallY y cy' n ret k) (hlk : Cond.methodLink own i y ∈ tb) (hin : Cond.instanceMethod y ∈ tb) (hse : Cond.selects C y y ∈ tb) (hd' : d' + 1 ≤ d) (hlen : As.length = k) (hle : M.1 ≤ M'.1) (hlim : M'.1 ≤ lim) (hp : p < M.1) (hkd : kd p = ci) (hst : st0 = As.reverse ++ rf X.1 p :: st) (hcat : (st.map fun v => v.category).sum ≤ 8) (hd : decode cc pc = .ok (.invokevirtual i, 3)) (kk : WS X M' (pc + 3) loc (.int v :: st)) : WS X M pc loc st0 :=
  s_callV O HK hM hy hlk hin hse hd' hlen hle hlim hp hkd hst hcat hd kk
theorem s_callSi {X : CT} {cc : ByteArray} {own : String} {d lim w : Nat} (O : OKX X cc own d lim w) {M : MM} {pc : Nat} {loc : List (Nat × Value)} {st : List Value} {y : MethodName} {cy' : ByteArray} {n k i d' : Nat} {ret : Option FieldType} {As st0 : List Value} {M' : MM} {v : Int32} (hM : Ct X.1 y cy' n ret d' As M (some (.int v)) M') (hy : CallY y cy' n ret k) (hlk : Cond.methodLink own i y ∈ tb) (hin : Cond.static y ∈ tb) (hd' : d' + 1 ≤ d) (hlen : As.length = k) (hle : M.1 ≤ M'.1) (hlim : M'.1 ≤ lim) (hst : st0 = As.reverse ++ st) (hcat : (st.map fun v => v.category).sum ≤ 8) (hd : decode cc pc = .ok (.invokestatic i, 3)) (kk : WS X M' (pc + 3) loc (.int v :: st)) : WS X M pc loc st0 :=
  s_callS O hM hy hlk hin hd' hlen hle hlim hst hcat hd kk
theorem s_callVl {X : CT} {cc : ByteArray} {own : String} {d lim w : Nat} (O : OKX X cc own d lim w) {M : MM} {pc : Nat} {loc : List (Nat × Value)} {st : List Value} {y : MethodName} {cy' : ByteArray} {n k i d' : Nat} {ret : Option FieldType} {As st0 : List Value} {M' : MM} {v : Int64} {ci p : Nat} {C : String} {T : u_T} {N : Nat} {ty : Nat → FieldType} (HK : KCok ci C T N ty) (hM : Ct X.1 y cy' n ret d' (rf X.1 p :: As) M (some (.long v)) M') (hy : CallY y cy' n ret k) (hlk : Cond.methodLink own i y ∈ tb) (hin : Cond.instanceMethod y ∈ tb) (hse : Cond.selects C y y ∈ tb) (hd' : d' + 1 ≤ d) (hlen : As.length = k) (hle : M.1 ≤ M'.1) (hlim : M'.1 ≤ lim) (hp : p < M.1) (hkd : kd p = ci) (hst : st0 = As.reverse ++ rf X.1 p :: st) (hcat : (st.map fun v => v.category).sum ≤ 8) (hd : decode cc pc = .ok (.invokevirtual i, 3)) (kk : WS X M' (pc + 3) loc (.long v :: st)) : WS X M pc loc st0 :=
  s_callV O HK hM hy hlk hin hse hd' hlen hle hlim hp hkd hst hcat hd kk
theorem s_callSl {X : CT} {cc : ByteArray} {own : String} {d lim w : Nat} (O : OKX X cc own d lim w) {M : MM} {pc : Nat} {loc : List (Nat × Value)} {st : List Value} {y : MethodName} {cy' : ByteArray} {n k i d' : Nat} {ret : Option FieldType} {As st0 : List Value} {M' : MM} {v : Int64} (hM : Ct X.1 y cy' n ret d' As M (some (.long v)) M') (hy : CallY y cy' n ret k) (hlk : Cond.methodLink own i y ∈ tb) (hin : Cond.static y ∈ tb) (hd' : d' + 1 ≤ d) (hlen : As.length = k) (hle : M.1 ≤ M'.1) (hlim : M'.1 ≤ lim) (hst : st0 = As.reverse ++ st) (hcat : (st.map fun v => v.category).sum ≤ 8) (hd : decode cc pc = .ok (.invokestatic i, 3)) (kk : WS X M' (pc + 3) loc (.long v :: st)) : WS X M pc loc st0 :=
  s_callS O hM hy hlk hin hd' hlen hle hlim hst hcat hd kk
theorem s_callVv {X : CT} {cc : ByteArray} {own : String} {d lim w : Nat} (O : OKX X cc own d lim w) {M : MM} {pc : Nat} {loc : List (Nat × Value)} {st : List Value} {y : MethodName} {cy' : ByteArray} {n k i d' : Nat} {ret : Option FieldType} {As st0 : List Value} {M' : MM}  {ci p : Nat} {C : String} {T : u_T} {N : Nat} {ty : Nat → FieldType} (HK : KCok ci C T N ty) (hM : Ct X.1 y cy' n ret d' (rf X.1 p :: As) M none M') (hy : CallY y cy' n ret k) (hlk : Cond.methodLink own i y ∈ tb) (hin : Cond.instanceMethod y ∈ tb) (hse : Cond.selects C y y ∈ tb) (hd' : d' + 1 ≤ d) (hlen : As.length = k) (hle : M.1 ≤ M'.1) (hlim : M'.1 ≤ lim) (hp : p < M.1) (hkd : kd p = ci) (hst : st0 = As.reverse ++ rf X.1 p :: st) (hcat : (st.map fun v => v.category).sum ≤ 8) (hd : decode cc pc = .ok (.invokevirtual i, 3)) (kk : WS X M' (pc + 3) loc (st)) : WS X M pc loc st0 :=
  s_callV O HK hM hy hlk hin hse hd' hlen hle hlim hp hkd hst hcat hd kk
theorem s_callSv {X : CT} {cc : ByteArray} {own : String} {d lim w : Nat} (O : OKX X cc own d lim w) {M : MM} {pc : Nat} {loc : List (Nat × Value)} {st : List Value} {y : MethodName} {cy' : ByteArray} {n k i d' : Nat} {ret : Option FieldType} {As st0 : List Value} {M' : MM}  (hM : Ct X.1 y cy' n ret d' As M none M') (hy : CallY y cy' n ret k) (hlk : Cond.methodLink own i y ∈ tb) (hin : Cond.static y ∈ tb) (hd' : d' + 1 ≤ d) (hlen : As.length = k) (hle : M.1 ≤ M'.1) (hlim : M'.1 ≤ lim) (hst : st0 = As.reverse ++ st) (hcat : (st.map fun v => v.category).sum ≤ 8) (hd : decode cc pc = .ok (.invokestatic i, 3)) (kk : WS X M' (pc + 3) loc (st)) : WS X M pc loc st0 :=
  s_callS O hM hy hlk hin hd' hlen hle hlim hst hcat hd kk
theorem s_callIv {X : CT} {cc : ByteArray} {own : String} {d lim w : Nat} (O : OKX X cc own d lim w) {M : MM} {pc : Nat} {loc : List (Nat × Value)} {st : List Value} {y : MethodName} {cy' : ByteArray} {n k i d' : Nat} {As st0 : List Value} {M' : MM}  {p : Nat} (hM : Ct X.1 y cy' n none d' (rf X.1 p :: As) M none M') (hy : CallY y cy' n none k) (hlk : Cond.methodLink own i y ∈ tb) (hin : Cond.instanceMethod y ∈ tb) (hnm : y.name = "<init>") (hd' : d' + 1 ≤ d) (hlen : As.length = k) (hle : M.1 ≤ M'.1) (hlim : M'.1 ≤ lim) (hst : st0 = As.reverse ++ rf X.1 p :: st) (hcat : (st.map fun v => v.category).sum ≤ 8) (hd : decode cc pc = .ok (.invokespecial i, 3)) (kk : WS X M' (pc + 3) loc st) : WS X M pc loc st0 :=
  s_callI O hM hy hlk hin hnm hd' hlen hle hlim hst hcat hd kk
theorem s_callINv {X : CT} {cc : ByteArray} {own : String} {d lim w : Nat} (O : OKX X cc own d lim w) {M : MM} {pc : Nat} {loc : List (Nat × Value)} {st : List Value} {y : MethodName} {cy' : ByteArray} {n k i d' : Nat} {As st0 : List Value} {M' : MM}  {p : Nat} {host : String} (hM : Ct X.1 y cy' n none d' (rf X.1 p :: As) M none M') (hy : CallY y cy' n none k) (hlk : Cond.methodLinkNest own i y host ∈ nestL) (hin : Cond.instanceMethod y ∈ tb) (hnm : y.name = "<init>") (hd' : d' + 1 ≤ d) (hlen : As.length = k) (hle : M.1 ≤ M'.1) (hlim : M'.1 ≤ lim) (hst : st0 = As.reverse ++ rf X.1 p :: st) (hcat : (st.map fun v => v.category).sum ≤ 8) (hd : decode cc pc = .ok (.invokespecial i, 3)) (kk : WS X M' (pc + 3) loc st) : WS X M pc loc st0 :=
  s_callIN O hM hy hlk hin hnm hd' hlen hle hlim hst hcat hd kk
