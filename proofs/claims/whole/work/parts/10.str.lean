/-! STRINGS: the two constants' length and signs, by the JDK's own methods -/
def bf (G : GG) (i : Nat) : Value := .ref (G.2.2.2.2.2 i)
theorem s_getsC {X : CT} {cc : ByteArray} {own : String} {d lim w : Nat} (O : OKX X cc own d lim w) {M : MM} {pc : Nat} {loc : List (Nat × Value)} {st : List Value} {i : Nat} (hlk : Cond.fieldLink own i "java/lang/String" "COMPACT_STRINGS" "Z" ∈ tb) (hd : decode cc pc = .ok (.getstatic i, 3)) (kk : WS X M (pc + 3) loc (.int 1 :: st)) : WS X M pc loc st := by
  obtain ⟨⟨l, D, cy, b, adK, adV⟩, p0, e, R, s, m, args, below, meth, c, Q, n0, nL⟩ := X
  obtain ⟨hx, hb, hml, hown, hts, hK, hlocks, hsz, hE, hfr, hlo, hce, hsl, hw⟩ := O
  intro H locs ls h0 hP hS hl
  exact va_gets hx hb hE.2.2.2.2.2.2.1 hS hown (hts _ hlk) (fun _ h => h) hd (kk H locs ls h0 hP hS hl)
theorem s_getsF {X : CT} {cc : ByteArray} {own : String} {d lim w : Nat} (O : OKX X cc own d lim w) {M : MM} {pc : Nat} {loc : List (Nat × Value)} {st : List Value} {i : Nat} (hlk : Cond.fieldLink own i "jdk/internal/util/Preconditions" "SIOOBE_FORMATTER" "Ljava/util/function/BiFunction;" ∈ tb) (hd : decode cc pc = .ok (.getstatic i, 3)) (kk : ∀ v : Value, v.category = 1 → WS X M (pc + 3) loc (v :: st)) : WS X M pc loc st := by
  obtain ⟨⟨l, D, cy, b, adK, adV⟩, p0, e, R, s, m, args, below, meth, c, Q, n0, nL⟩ := X
  obtain ⟨hx, hb, hml, hown, hts, hK, hlocks, hsz, hE, hfr, hlo, hce, hsl, hw⟩ := O
  intro H locs ls h0 hP hS hl
  rcases hE.2.2.2.2.2.2.2.1 with hz | ⟨t, hz⟩
  · exact va_gets hx hb hz hS hown (hts _ hlk) (fun _ h => h) hd (kk _ rfl H locs ls h0 hP hS hl)
  · exact va_gets hx hb hz hS hown (hts _ hlk) (fun _ h => h) hd (kk _ rfl H locs ls h0 hP hS hl)
theorem s_getSv {X : CT} {cc : ByteArray} {own : String} {d lim w : Nat} (O : OKX X cc own d lim w) {M : MM} {pc : Nat} {loc : List (Nat × Value)} {st : List Value} {i q : Nat} (hq : q < 2) (hlk : Cond.fieldLink own i "java/lang/String" "value" "[B" ∈ tb) (hd : decode cc pc = .ok (.getfield i, 3)) (kk : WS X M (pc + 3) loc (bf X.1 q :: st)) : WS X M pc loc (sf X.1 q :: st) := by
  obtain ⟨⟨l, D, cy, b, adK, adV⟩, p0, e, R, s, m, args, below, meth, c, Q, n0, nL⟩ := X
  obtain ⟨hx, hb, hml, hown, hts, hK, hlocks, hsz, hE, hfr, hlo, hce, hsl, hw⟩ := O
  intro H locs ls h0 hP hS hl
  exact vk_getf hx hb (hE.2.2.2.2.2.1.1 q hq).2.2.1 hS hown (hts _ hlk) (fun _ h => h) hd (kk H locs ls h0 hP hS hl)
theorem s_getSc {X : CT} {cc : ByteArray} {own : String} {d lim w : Nat} (O : OKX X cc own d lim w) {M : MM} {pc : Nat} {loc : List (Nat × Value)} {st : List Value} {i q : Nat} (hq : q < 2) (hlk : Cond.fieldLink own i "java/lang/String" "coder" "B" ∈ tb) (hd : decode cc pc = .ok (.getfield i, 3)) (kk : WS X M (pc + 3) loc (.int 0 :: st)) : WS X M pc loc (sf X.1 q :: st) := by
  obtain ⟨⟨l, D, cy, b, adK, adV⟩, p0, e, R, s, m, args, below, meth, c, Q, n0, nL⟩ := X
  obtain ⟨hx, hb, hml, hown, hts, hK, hlocks, hsz, hE, hfr, hlo, hce, hsl, hw⟩ := O
  intro H locs ls h0 hP hS hl
  exact vk_getf hx hb (hE.2.2.2.2.2.1.1 q hq).2.1 hS hown (hts _ hlk) (fun _ h => h) hd (kk H locs ls h0 hP hS hl)
theorem s_alenB {X : CT} {cc : ByteArray} {own : String} {d lim w : Nat} (O : OKX X cc own d lim w) {M : MM} {pc : Nat} {loc : List (Nat × Value)} {st : List Value} {q : Nat} (hq : q < 2) (hd : decode cc pc = .ok (.arraylength, 1)) (kk : WS X M (pc + 1) loc (.int (Int32.ofNat (lenS.getD q 0)) :: st)) : WS X M pc loc (bf X.1 q :: st) := by
  obtain ⟨⟨l, D, cy, b, adK, adV⟩, p0, e, R, s, m, args, below, meth, c, Q, n0, nL⟩ := X
  obtain ⟨hx, hb, hml, hown, hts, hK, hlocks, hsz, hE, hfr, hlo, hce, hsl, hw⟩ := O
  intro H locs ls h0 hP hS hl
  exact va_tlen hx hb (hE.2.2.2.2.2.1.1 q hq).2.2.2 hS rfl hd (kk H locs ls h0 hP hS hl)
theorem s_baldB {X : CT} {cc : ByteArray} {own : String} {d lim w : Nat} (O : OKX X cc own d lim w) {M : MM} {pc : Nat} {loc : List (Nat × Value)} {st : List Value} {q : Nat} {i : Int32} (hq : q < 2) (hi : vp_in i (lenS.getD q 0)) (hd : decode cc pc = .ok (.baload, 1)) (kk : WS X M (pc + 1) loc (.int ((bytS.getD q []).getD i.toNatClampNeg 0) :: st)) : WS X M pc loc (.int i :: bf X.1 q :: st) := by
  obtain ⟨⟨l, D, cy, b, adK, adV⟩, p0, e, R, s, m, args, below, meth, c, Q, n0, nL⟩ := X
  obtain ⟨hx, hb, hml, hown, hts, hK, hlocks, hsz, hE, hfr, hlo, hce, hsl, hw⟩ := O
  intro H locs ls h0 hP hS hl
  exact va_tb hx hb (hE.2.2.2.2.2.1.1 q hq).2.2.2 hS hi rfl hd (kk H locs ls h0 hP hS hl)
theorem s_aload_nB {X : CT} {cc : ByteArray} {own : String} {d lim w : Nat} (O : OKX X cc own d lim w) {M : MM} {pc : Nat} {loc : List (Nat × Value)} {st : List Value} {k : Fin 4} {i x : Nat} (hd : decode cc pc = .ok (.aload_n k, 1)) (hi : (k : Nat) = i) (j : Nat) (hj : loc[j]? = some (i, bf X.1 x)) (kk : WS X M (pc + 1) loc (bf X.1 x :: st)) : WS X M pc loc st := by
  obtain ⟨⟨l, D, cy, b, adK, adV⟩, p0, e, R, s, m, args, below, meth, c, Q, n0, nL⟩ := X
  obtain ⟨hx, hb, hml, hown, hts, hK, hlocks, hsz, hE, hfr, hlo, hce, hsl, hw⟩ := O
  intro H locs ls h0 hP hS hl
  exact lv_aload_n hx hb hd hi (lv_at hl j hj) (kk H locs ls h0 hP hS hl)
theorem s_i2c {X : CT} {cc : ByteArray} {own : String} {d lim w : Nat} (O : OKX X cc own d lim w) {M : MM} {pc : Nat} {loc : List (Nat × Value)} {st : List Value} {x : Int32} (hd : decode cc pc = .ok (.i2c, 1)) (kk : WS X M (pc + 1) loc (.int (x.toUInt32 % 65536).toInt32 :: st)) : WS X M pc loc (.int x :: st) := by
  obtain ⟨⟨l, D, cy, b, adK, adV⟩, p0, e, R, s, m, args, below, meth, c, Q, n0, nL⟩ := X
  obtain ⟨hx, hb, hml, hown, hts, hK, hlocks, hsz, hE, hfr, hlo, hce, hsl, hw⟩ := O
  intro H locs ls h0 hP hS hl
  exact lv_i2c hx hb hd rfl (kk H locs ls h0 hP hS hl)
theorem s_callSt {X : CT} {cc : ByteArray} {own : String} {d lim w : Nat} (O : OKX X cc own d lim w) {M : MM} {pc : Nat} {loc : List (Nat × Value)} {st : List Value} {y : MethodName} {cy' : ByteArray} {n k i d' : Nat} {ret : Option FieldType} {As st0 : List Value} {M' : MM} {r : Option Value} {q : Nat} (hq : q < 2) (hM : Ct X.1 y cy' n ret d' (sf X.1 q :: As) M r M') (hy : CallY y cy' n ret k) (hlk : Cond.methodLink own i y ∈ tb) (hin : Cond.instanceMethod y ∈ tb) (hse : Cond.selects "java/lang/String" y y ∈ tb) (hd' : d' + 1 ≤ d) (hlen : As.length = k) (hle : M.1 ≤ M'.1) (hlim : M'.1 ≤ lim) (hst : st0 = As.reverse ++ sf X.1 q :: st) (hcat : (st.map fun v => v.category).sum ≤ 8) (hd : decode cc pc = .ok (.invokevirtual i, 3)) (kk : WS X M' (pc + 3) loc (r.toList ++ st)) : WS X M pc loc st0 := by
  obtain ⟨⟨l, D, cy, b, adK, adV⟩, p0, e, R, s, m, args, below, meth, c, Q, n0, nL⟩ := X
  obtain ⟨hx, hb, hml, hown, hts, hK, hlocks, hsz, hE, hfr, hlo, hce, hsl, hw⟩ := O
  intro H locs ls h0 hP hS hl
  refine ws_size hsz (by omega) hP hS (fun hH => ?_)
  refine run_on (D := D) (cy := cy) (b := b) (adK := adK) (adV := adV) h0 hle hS (va_runV (As := As) (rest := st) ⟨hx, hb, hml, hown, hts⟩ hM ⟨(callB_of (rm := rmA d' (M'.1 - M.1) (Zs M'.1 - Zs M.1)) k hts (gi_all hy.2.1) rfl rfl rfl (hts _ hy.2.2.1) (hts _ hlk) hy.1 ⟨by show d' + 1 ≤ R.frames; omega, by have := hy.2.2.2; show 8 + (n + 11) + 32 * d' ≤ R.locals; omega⟩), hts _ hin, hts _ hse⟩ ⟨blind, vk_recv (N := 2) (len := lenS) (byt := bytS) (adK := adK) (adV := adV) hE.2.2.2.2.2.1 hq hS, fun U hU hW => ⟨rfl, by rw [hU]; exact hH, by rw [hU]; exact hP, va_K.moved hW.alike hK, by rw [hU]; exact (hE.kept (fun a g1 g2 => hS.2.1 a g1 g2)).warm hW⟩⟩ rfl hlen hl.1 hst (lv_room hcat) hd ⟨by omega, by have := Zs_mono h0; have := Zs_mono hle; have := Zs_mono hlim; omega⟩) (fun H1 locs1 a1 a2 a3 => kk H1 locs1 ls a1 a2 a3 hl)
theorem s_sret {X : CT} {cc : ByteArray} {own : String} {d lim w : Nat} (O : OKX X cc own d lim w) {M : MM} {pc : Nat} {loc : List (Nat × Value)}  {v : Int32} {ty : FieldType} (hn : narrow ty (.int v) = .int v) (T : RTX X (some ty) (some (.int v)) M) (hd : decode cc pc = .ok (.ireturn, 1)) : WS X M pc loc [.int v] := by
  obtain ⟨⟨l, D, cy, b, adK, adV⟩, p0, e, R, s, m, args, below, meth, c, Q, n0, nL⟩ := X
  obtain ⟨hx, hb, hml, hown, hts, hK, hlocks, hsz, hE, hfr, hlo, hce, hsl, hw⟩ := O
  intro H locs ls h0 hP hS hl
  obtain ⟨hQ, hr⟩ := T
  subst hQ
  refine ws_size hsz (by omega) hP hS (fun hH => ?_)
  exact W.zret hx hb hr hn (fun t ht hW => ⟨rfl, by rw [ht]; exact hH, by rw [ht]; exact hP, hS.F ht⟩) hS.2.2 hd hlocks
theorem cy_J0_coder_7d493 : CallY yJ0_coder_7d493 cJ0_coder_7d493 1 (some .byte) 0 := ⟨by decide +kernel, tw_319, tw_48, by decide⟩
theorem cy_J0_length_8abf5 : CallY yJ0_length_8abf5 cJ0_length_8abf5 1 (some .int) 0 := ⟨by decide +kernel, tw_315, tw_48, by decide⟩
theorem cy_J0_isLatin1_aae02 : CallY yJ0_isLatin1_aae02 cJ0_isLatin1_aae02 1 (some .boolean) 0 := ⟨by decide +kernel, tw_329, tw_48, by decide⟩
theorem cy_J3_checkIndex_8e157 : CallY yJ3_checkIndex_8e157 cJ3_checkIndex_8e157 3 (some .int) 3 := ⟨by decide +kernel, tw_340, tw_50, by decide⟩
theorem cy_J0_checkIndex_df160 : CallY yJ0_checkIndex_df160 cJ0_checkIndex_df160 2 (none) 2 := ⟨by decide +kernel, tw_335, tw_48, by decide⟩
theorem cy_J1_charAt_3b067 : CallY yJ1_charAt_3b067 cJ1_charAt_3b067 2 (some .char) 2 := ⟨by decide +kernel, tw_332, tw_49, by decide⟩
theorem cy_J0_charAt_5068e : CallY yJ0_charAt_5068e cJ0_charAt_5068e 2 (some .char) 1 := ⟨by decide +kernel, tw_325, tw_48, by decide⟩
set_option maxHeartbeats 4000000 in
set_option maxRecDepth 100000 in
theorem c_J0_coder_7d493 {G : GG} {M : MM} {q : Nat} (hq : q < 2) : Ct G yJ0_coder_7d493 cJ0_coder_7d493 1 (some .byte) 0 [sf G q] M (some (.int 0)) M := by
  refine ct_of (by decide +kernel) (Nat.le_of_ble_eq_true rfl) (fun X hX O hK hi0 => ?_)
  subst hX
  replace O : OKX X cJ0_coder_7d493 RJ0 0 M.1 1 := O
  show WS X M 0 [(0, sf X.1 q)] []
  refine s_getsC (pc := 0) O tw_320 dJ0_coder_7d493_0 ?_
  refine s_if_eq (pc := 3) O (tgt := 13) dJ0_coder_7d493_3 (by decide) (fun c => absurd c (by decide)) (fun _ => ?_)
  refine s_aload_nS (pc := 6) O dJ0_coder_7d493_6 rfl 0 rfl ?_
  refine s_getSc (pc := 7) O hq tw_918 dJ0_coder_7d493_7 ?_
  refine s_goto (pc := 10) O (tgt := 14) dJ0_coder_7d493_10 (by decide) ?_
  exact s_sret (pc := 14) O rfl hK dJ0_coder_7d493_14
theorem slen_shr : ∀ q, q < 2 → (Int32.ofNat (lenS.getD q 0)) >>> ((0 : Int32) &&& 31) = nI (lenS.getD q 0) := by decide
set_option maxHeartbeats 4000000 in
set_option maxRecDepth 100000 in
theorem c_J0_length_8abf5 {G : GG} {M : MM} {q : Nat} (hq : q < 2) : Ct G yJ0_length_8abf5 cJ0_length_8abf5 1 (some .int) 1 [sf G q] M (some (.int (nI (lenS.getD q 0)))) M := by
  refine ct_of (by decide +kernel) (Nat.le_of_ble_eq_true rfl) (fun X hX O hK hi0 => ?_)
  subst hX
  replace O : OKX X cJ0_length_8abf5 RJ0 1 M.1 1 := O
  show WS X M 0 [(0, sf X.1 q)] []
  refine s_aload_nS (pc := 0) O dJ0_length_8abf5_0 rfl 0 rfl ?_
  refine s_getSv (pc := 1) O hq tw_917 dJ0_length_8abf5_1 ?_
  refine s_alenB (pc := 4) O hq dJ0_length_8abf5_4 ?_
  refine s_aload_nS (pc := 5) O dJ0_length_8abf5_5 rfl 0 rfl ?_
  refine s_callSt (pc := 6) O (As := []) (r := some (.int 0)) hq (c_J0_coder_7d493 (G := X.1) hq) cy_J0_coder_7d493 tw_316 tw_317 tw_318 (by decide) rfl (Nat.le_refl _) (Nat.le_refl _) rfl (Nat.le_of_ble_eq_true rfl) dJ0_length_8abf5_6 ?_
  refine s_ishr (pc := 9) O dJ0_length_8abf5_9 ?_
  rw [slen_shr q hq]
  exact s_iret (pc := 10) O hK dJ0_length_8abf5_10
set_option maxHeartbeats 4000000 in
set_option maxRecDepth 100000 in
theorem c_J0_isLatin1_aae02 {G : GG} {M : MM} {q : Nat} (hq : q < 2) : Ct G yJ0_isLatin1_aae02 cJ0_isLatin1_aae02 1 (some .boolean) 0 [sf G q] M (some (.int 1)) M := by
  refine ct_of (by decide +kernel) (Nat.le_of_ble_eq_true rfl) (fun X hX O hK hi0 => ?_)
  subst hX
  replace O : OKX X cJ0_isLatin1_aae02 RJ0 0 M.1 1 := O
  show WS X M 0 [(0, sf X.1 q)] []
  refine s_getsC (pc := 0) O tw_320 dJ0_isLatin1_aae02_0 ?_
  refine s_if_eq (pc := 3) O (tgt := 17) dJ0_isLatin1_aae02_3 (by decide) (fun c => absurd c (by decide)) (fun _ => ?_)
  refine s_aload_nS (pc := 6) O dJ0_isLatin1_aae02_6 rfl 0 rfl ?_
  refine s_getSc (pc := 7) O hq tw_918 dJ0_isLatin1_aae02_7 ?_
  refine s_if_ne (pc := 10) O (tgt := 17) dJ0_isLatin1_aae02_10 (by decide) (fun c => absurd rfl c) (fun _ => ?_)
  refine s_iconst (pc := 13) O (v := 1) dJ0_isLatin1_aae02_13 (by decide) ?_
  refine s_goto (pc := 14) O (tgt := 18) dJ0_isLatin1_aae02_14 (by decide) ?_
  exact s_zret (pc := 18) O (by decide) hK dJ0_isLatin1_aae02_18
set_option maxHeartbeats 4000000 in
set_option maxRecDepth 100000 in
theorem c_J3_checkIndex_8e157 {G : GG} {M : MM} {a0 a1 : Int32} {fv : Value} (hf : fv.category = 1) (h1 : ¬ a0 < 0) (h2 : a0 < a1) : Ct G yJ3_checkIndex_8e157 cJ3_checkIndex_8e157 3 (some .int) 0 [.int a0, .int a1, fv] M (some (.int a0)) M := by
  refine ct_of (by decide +kernel) (by cases fv <;> first | exact absurd hf (show ¬ 2 = 1 by decide) | exact Nat.le_of_ble_eq_true rfl) (fun X hX O hK hi0 => ?_)
  subst hX
  replace O : OKX X cJ3_checkIndex_8e157 RJ3 0 M.1 3 := O
  have hlv : lv_args 0 [.int a0, .int a1, fv] = [(0, .int a0), (1, .int a1), (2, fv)] := rfl
  rw [hlv]
  refine s_iload_n (pc := 0) O dJ3_checkIndex_8e157_0 rfl 0 rfl ?_
  refine s_if_lt (pc := 1) O (tgt := 9) dJ3_checkIndex_8e157_1 (by decide) (fun c => absurd c h1) (fun _ => ?_)
  refine s_iload_n (pc := 4) O dJ3_checkIndex_8e157_4 rfl 0 rfl ?_
  refine s_iload_n (pc := 5) O dJ3_checkIndex_8e157_5 rfl 1 rfl ?_
  refine s_icmp_lt (pc := 6) O (tgt := 16) dJ3_checkIndex_8e157_6 (by decide) (fun _ => ?_) (fun c => absurd h2 c)
  refine s_iload_n (pc := 16) O dJ3_checkIndex_8e157_16 rfl 0 rfl ?_
  exact s_iret (pc := 17) O hK dJ3_checkIndex_8e157_17
set_option maxHeartbeats 4000000 in
set_option maxRecDepth 100000 in
theorem c_J0_checkIndex_df160 {G : GG} {M : MM} {a0 a1 : Int32} (h1 : ¬ a0 < 0) (h2 : a0 < a1) : Ct G yJ0_checkIndex_df160 cJ0_checkIndex_df160 2 (none) 1 [.int a0, .int a1] M (none) M := by
  refine ct_of (by decide +kernel) (Nat.le_of_ble_eq_true rfl) (fun X hX O hK hi0 => ?_)
  subst hX
  replace O : OKX X cJ0_checkIndex_df160 RJ0 1 M.1 2 := O
  show WS X M 0 [(0, .int a0), (1, .int a1)] []
  refine s_iload_n (pc := 0) O dJ0_checkIndex_df160_0 rfl 0 rfl ?_
  refine s_iload_n (pc := 1) O dJ0_checkIndex_df160_1 rfl 1 rfl ?_
  refine s_getsF (pc := 2) O tw_336 dJ0_checkIndex_df160_2 (fun fv hf => ?_)
  refine s_callSi (pc := 5) O (As := [.int a0, .int a1, fv]) (c_J3_checkIndex_8e157 (G := X.1) hf h1 h2) cy_J3_checkIndex_8e157 tw_338 tw_339 (by decide) rfl (Nat.le_refl _) (Nat.le_refl _) rfl (Nat.le_of_ble_eq_true rfl) dJ0_checkIndex_df160_5 ?_
  refine s_pop (pc := 8) O dJ0_checkIndex_df160_8 rfl ?_
  exact s_vret (pc := 9) O hK dJ0_checkIndex_df160_9
/-- the sign at a place of a String constant, as charAt() answers it -/
def chS (q : Nat) (i : Int32) : Int32 := ((((bytS.getD q []).getD i.toNatClampNeg 0) &&& 255).toUInt32 % 65536).toInt32
theorem vin_lt {i : Int32} {n : Nat} (h : vp_in i n) (hn : n < 2 ^ 31) : ¬ i < 0 ∧ i < Int32.ofNat n := by
  obtain ⟨j, hj, rfl⟩ := vp_in_of h hn
  exact ⟨nI_pos (by omega), nI_lt hj hn⟩
theorem lenS_small : ∀ q, lenS.getD q 0 < 2 ^ 31
  | 0 => by decide
  | 1 => by decide
  | q + 2 => by show (0 : Nat) < _; decide
set_option maxHeartbeats 4000000 in
set_option maxRecDepth 100000 in
theorem c_J1_charAt_3b067 {G : GG} {M : MM} {q : Nat} {i : Int32} (hq : q < 2) (hi : vp_in i (lenS.getD q 0)) : Ct G yJ1_charAt_3b067 cJ1_charAt_3b067 2 (some .char) 2 [bf G q, .int i] M (some (.int (chS q i))) M := by
  refine ct_of (by decide +kernel) (Nat.le_of_ble_eq_true rfl) (fun X hX O hK hi0 => ?_)
  subst hX
  replace O : OKX X cJ1_charAt_3b067 RJ1 2 M.1 2 := O
  show WS X M 0 [(0, bf X.1 q), (1, .int i)] []
  refine s_iload_n (pc := 0) O dJ1_charAt_3b067_0 rfl 1 rfl ?_
  refine s_aload_nB (pc := 1) O dJ1_charAt_3b067_1 rfl 0 rfl ?_
  refine s_alenB (pc := 2) O hq dJ1_charAt_3b067_2 ?_
  refine s_callSv (pc := 3) O (As := [.int i, .int (Int32.ofNat (lenS.getD q 0))]) (c_J0_checkIndex_df160 (G := X.1) (vin_lt hi (lenS_small q)).1 (vin_lt hi (lenS_small q)).2) cy_J0_checkIndex_df160 tw_333 tw_334 (by decide) rfl (Nat.le_refl _) (Nat.le_refl _) rfl (Nat.le_of_ble_eq_true rfl) dJ1_charAt_3b067_3 ?_
  refine s_aload_nB (pc := 6) O dJ1_charAt_3b067_6 rfl 0 rfl ?_
  refine s_iload_n (pc := 7) O dJ1_charAt_3b067_7 rfl 1 rfl ?_
  refine s_baldB (pc := 8) O hq hi dJ1_charAt_3b067_8 ?_
  refine s_sipush (pc := 9) O (v := 255) dJ1_charAt_3b067_9 (by decide) ?_
  refine s_iand (pc := 12) O dJ1_charAt_3b067_12 ?_
  refine s_i2c (pc := 13) O dJ1_charAt_3b067_13 ?_
  exact s_sret (pc := 14) O (pk_nc _) hK dJ1_charAt_3b067_14
set_option maxHeartbeats 4000000 in
set_option maxRecDepth 100000 in
theorem c_J0_charAt_5068e {G : GG} {M : MM} {q : Nat} {i : Int32} (hq : q < 2) (hi : vp_in i (lenS.getD q 0)) : Ct G yJ0_charAt_5068e cJ0_charAt_5068e 2 (some .char) 3 [sf G q, .int i] M (some (.int (chS q i))) M := by
  refine ct_of (by decide +kernel) (Nat.le_of_ble_eq_true rfl) (fun X hX O hK hi0 => ?_)
  subst hX
  replace O : OKX X cJ0_charAt_5068e RJ0 3 M.1 2 := O
  show WS X M 0 [(0, sf X.1 q), (1, .int i)] []
  refine s_aload_nS (pc := 0) O dJ0_charAt_5068e_0 rfl 0 rfl ?_
  refine s_callSt (pc := 1) O (As := []) (r := some (.int 1)) hq (c_J0_isLatin1_aae02 (G := X.1) hq) cy_J0_isLatin1_aae02 tw_326 tw_327 tw_328 (by decide) rfl (Nat.le_refl _) (Nat.le_refl _) rfl (Nat.le_of_ble_eq_true rfl) dJ0_charAt_5068e_1 ?_
  refine s_if_eq (pc := 4) O (tgt := 16) dJ0_charAt_5068e_4 (by decide) (fun c => absurd c (by decide)) (fun _ => ?_)
  refine s_aload_nS (pc := 7) O dJ0_charAt_5068e_7 rfl 0 rfl ?_
  refine s_getSv (pc := 8) O hq tw_917 dJ0_charAt_5068e_8 ?_
  refine s_iload_n (pc := 11) O dJ0_charAt_5068e_11 rfl 1 rfl ?_
  refine s_callSi (pc := 12) O (As := [bf X.1 q, .int i]) (c_J1_charAt_3b067 (G := X.1) hq hi) cy_J1_charAt_3b067 tw_330 tw_331 (by decide) rfl (Nat.le_refl _) (Nat.le_refl _) rfl (Nat.le_of_ble_eq_true rfl) dJ0_charAt_5068e_12 ?_
  exact s_sret (pc := 15) O (pk_nc _) hK dJ0_charAt_5068e_15
/-! the same as functions, with their guards -/
def f_slen (q : Nat) : Option Int32 := if q < 2 then some (nI (lenS.getD q 0)) else none
def f_scharAt (q : Nat) (i : Int32) : Option Int32 := if q < 2 ∧ ¬ (i < 0 ∨ lenS.getD q 0 ≤ i.toNatClampNeg) then some (chS q i) else none
theorem r_slen {q : Nat} {r : Int32} (h : f_slen q = some r) : q < 2 := (gd h).1
theorem r_scharAt {q : Nat} {i r : Int32} (h : f_scharAt q i = some r) : q < 2 := (gd h).1.1
theorem c_slen {G : GG} {M : MM} {q : Nat} {r : Int32} (h : f_slen q = some r) : Ct G yJ0_length_8abf5 cJ0_length_8abf5 1 (some .int) 1 [sf G q] M (some (.int r)) M := by
  obtain ⟨hq, h⟩ := gd h
  cases h
  exact c_J0_length_8abf5 hq
theorem c_scharAt {G : GG} {M : MM} {q : Nat} {i r : Int32} (h : f_scharAt q i = some r) : Ct G yJ0_charAt_5068e cJ0_charAt_5068e 2 (some .char) 3 [sf G q, .int i] M (some (.int r)) M := by
  obtain ⟨⟨hq, hi⟩, h⟩ := gd h
  cases h
  exact c_J0_charAt_5068e hq hi
