/-! THE CLAIM OUT OF ONE WALK OF THE LAW'S BODY. Your part is whole_start (and what it stands on); all else here is the same for every law, but numbers. -/
def R_law : String := "SameLettersLaw"
def lw_P (b : Addr) (xs : List Int32) (args : Array Value) (s : State) : Prop := args = #[.ref b] ∧ s.IntsAt b xs ∧ xs.length ≤ 2048 ∧ (Jvm.Cond.and given_1 narrow_1).before args s = true
def lw_Q (_ : Array Value) (s : State) (o : Outcome) (t : State) : Prop := o = .returned (some (.int 1)) ∧ Framed s o t [] 600000 7302250
def lw_Z (below : List Frame) (a : Array Value) (s : State) : State → Prop := fun t => ∃ o, t.status = .running ∧ Ended t below o ∧ lw_Q a s o t
/-- the law's own end, with 1 on the stack, nothing written that was there before, its room as the claim has it -/
theorem lw_ret {p : Program} {l : Launch} {e : Env} {s : State} {m : MethodId} {below : List Frame} {meth : Method} {c : Code} {b : Nat} (hx : p.tables.exec = Jvm.exec) (hb : c.code = code) (hr : meth.sig.returnType = ret) (hlocks : meth.locks = false) {pc : Nat} {H : Heap} {ls : Array Slot} (hdg : decode code pc = .ok (.ireturn, 1)) : W p l e room_1 s m #[Value.ref b] below meth c H [] 600000 7302250 (lw_Z below #[Value.ref b] s) (F0 m pc ls [.int 1]) := by
  intro T hT X
  obtain ⟨fs, hret, hrun, hended, hW, hframe⟩ := X.leave (v := some (.int 1)) (hlocks := hlocks) (fun h => by rw [hr] at h; cases h)
  have hmeth' : T.vm.method? m = some meth := X.method'
  refine ⟨T.setFrames fs, ?_, .returned (some (.int 1)), hrun, hended, rfl, ⟨_, rfl⟩, hW, hframe⟩
  jvm_step X.here [X.here.top, hx, hb, hdg, hmeth', hr, ret, narrow_b1]
  (try refine ⟨rfl, ?_⟩); (try refine ⟨rfl, ?_⟩)
  first | (intro acts; rw [hret _ acts rfl rfl rfl]) | rw [hret _ _ rfl rfl rfl]
  exact Steps.refl _
/-- what holds at the law's entry: the machine, the code, the tables' words (any of lw_tbl by 'hts w (by decide +kernel)'), the script of L ints xs at the cell b, what the Statement gives of the start (any of its parts by flat_of_before) -/
def lw_At (p : Program) (s : State) (m : MethodId) (meth : Method) (c : Code) (b L : Nat) (xs : Nat → Int32) : Prop :=
  p.tables.exec = Jvm.exec ∧ c.code = code ∧ meth.sig.returnType = ret ∧ c.maxLocals = 4 ∧ s.vm.findClass R_law = some m.cls ∧ (∀ w ∈ lw_tbl, w.before #[Value.ref b] s = true) ∧ va_X b L xs s s.heap ∧ b < s.heap.size ∧ meth.locks = false ∧ (Jvm.Cond.and given_1 narrow_1).before #[Value.ref b] s = true
/-- the law's frame: its end, its script -/
def LWQ (X : CT) : Prop := match X with
  | ((_, _, _, b, _), _, _, R, s, _, args, below, meth, _, Q, n0, _) => ∃ bs : Nat, args = #[.ref bs] ∧ R = room_1 ∧ Q = lw_Z below #[Value.ref bs] s ∧ meth.sig.returnType = ret ∧ s.heap.size = b ∧ n0 = 0
def XSC (X : CT) (bs L : Nat) (xs : Nat → Int32) : Prop := match X with
  | ((_, _, _, b, _), _, _, _, s, _, _, _, _, _, _, _, _) => va_X bs L xs s s.heap ∧ bs < s.heap.size ∧ s.heap.size = b
theorem s_slen {X : CT} {cc : ByteArray} {own : String} {d lim w : Nat} (O : OKX X cc own d lim w) {M : MM} {pc : Nat} {loc : List (Nat × Value)} {st : List Value} {bs L : Nat} {xs : Nat → Int32} (hX : XSC X bs L xs) (hd : decode cc pc = .ok (.arraylength, 1)) (kk : WS X M (pc + 1) loc (.int (Int32.ofNat L) :: st)) : WS X M pc loc (.ref bs :: st) := by
  obtain ⟨⟨l, D, cy, b, adK, adV⟩, p0, e, R, s, m, args, below, meth, c, Q, n0, nL⟩ := X
  obtain ⟨hx, hb, hml, hown, hts, hK, hlocks, hsz, hE, hfr, hlo, hce, hsl, hw⟩ := O
  intro H locs ls h0 hP hS hl
  obtain ⟨hX, h1, h2⟩ := hX
  have hbA : ¬ b ≤ bs := by omega
  exact va_slen hx hb hX h1 hbA hS hd (kk H locs ls h0 hP hS hl)
theorem s_sld {X : CT} {cc : ByteArray} {own : String} {d lim w : Nat} (O : OKX X cc own d lim w) {M : MM} {pc : Nat} {loc : List (Nat × Value)} {st : List Value} {bs L : Nat} {xs : Nat → Int32} {i : Int32} (hX : XSC X bs L xs) (hi : ¬ (i < 0 ∨ L ≤ i.toNatClampNeg)) (hd : decode cc pc = .ok (.iaload, 1)) (kk : WS X M (pc + 1) loc (.int (xs i.toNatClampNeg) :: st)) : WS X M pc loc (.int i :: .ref bs :: st) := by
  obtain ⟨⟨l, D, cy, b, adK, adV⟩, p0, e, R, s, m, args, below, meth, c, Q, n0, nL⟩ := X
  obtain ⟨hx, hb, hml, hown, hts, hK, hlocks, hsz, hE, hfr, hlo, hce, hsl, hw⟩ := O
  intro H locs ls h0 hP hS hl
  obtain ⟨hX, h1, h2⟩ := hX
  have hbA : ¬ b ≤ bs := by omega
  exact va_sld hx hb hX h1 hbA hS hi hd (kk H locs ls h0 hP hS hl)
theorem s_aload_nR {X : CT} {cc : ByteArray} {own : String} {d lim w : Nat} (O : OKX X cc own d lim w) {M : MM} {pc : Nat} {loc : List (Nat × Value)} {st : List Value} {k : Fin 4} {i x : Nat} (hd : decode cc pc = .ok (.aload_n k, 1)) (hi : (k : Nat) = i) (j : Nat) (hj : loc[j]? = some (i, .ref x)) (kk : WS X M (pc + 1) loc (.ref x :: st)) : WS X M pc loc st := by
  obtain ⟨⟨l, D, cy, b, adK, adV⟩, p0, e, R, s, m, args, below, meth, c, Q, n0, nL⟩ := X
  obtain ⟨hx, hb, hml, hown, hts, hK, hlocks, hsz, hE, hfr, hlo, hce, hsl, hw⟩ := O
  intro H locs ls h0 hP hS hl
  exact lv_aload_n hx hb hd hi (lv_at hl j hj) (kk H locs ls h0 hP hS hl)
theorem s_lawret {X : CT} {own : String} {d lim w : Nat} (O : OKX X code own d lim w) {M : MM} {pc : Nat} {loc : List (Nat × Value)} (hn : M.1 ≤ lim) (hQ : LWQ X) (hd : decode code pc = .ok (.ireturn, 1)) : WS X M pc loc [.int 1] := by
  obtain ⟨⟨l, D, cy, b, adK, adV⟩, p0, e, R, s, m, args, below, meth, c, Q, n0, nL⟩ := X
  obtain ⟨hx, hb, hml, hown, hts, hK, hlocks, hsz, hE, hfr, hlo, hce, hsl, hw⟩ := O
  intro H locs ls h0 hP hS hl
  obtain ⟨bs, rfl, rfl, rfl, hr, hb0, rfl⟩ := hQ
  have hzz := Zs_mono hn
  have q1 : M.1 - 0 ≤ 600000 := by
    have : lim - 0 ≤ 600000 := hce
    omega
  have q2 : Zs M.1 - Zs 0 ≤ 7302250 := by
    have : Zs lim - Zs 0 ≤ 7302250 := hsl
    omega
  refine va_forget (fun q hq => by rw [hb0]; exact hS.2.2 q hq) ?_
  refine W.widen (k := 600000) (n := 7302250) q1 q2 ?_
  exact lw_ret hx hb hr hlocks hd
