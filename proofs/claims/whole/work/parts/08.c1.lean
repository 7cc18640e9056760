def f_X6_count (M : MM) (p0 : Nat) (a1 : Int32) : Option (Int32) :=
  if p0 < M.1 ∧ kd p0 = 6 then (if a1 = 0 then ((fR M p0 6 4).bind fun v1 => (fI M v1 4 2).bind fun v2 => some v2) else (if a1 = 1 then ((fR M p0 6 4).bind fun v3 => (fI M v3 4 3).bind fun v4 => some v4) else (if a1 = 2 then ((fR M p0 6 2).bind fun v5 => (fI M v5 0 1).bind fun v6 => some v6) else (if a1 = 3 then ((fR M p0 6 0).bind fun v7 => (fI M v7 3 1).bind fun v8 => some v8) else (some ((-1))))))) else none
theorem r_X6_count {M : MM} {p0 : Nat} {a1 : Int32} {o : Int32} (h : f_X6_count M p0 a1 = some o) : p0 < M.1 ∧ kd p0 = 6 := by
  unfold f_X6_count at h
  exact (gd h).1
theorem cy_X6_count : CallY yX6_count cX6_count 2 (some .int) 1 := ⟨by decide +kernel, tw_631, tw_40, by decide⟩
set_option maxHeartbeats 4000000 in
set_option maxRecDepth 100000 in
theorem c_X6_count {G : GG} {M : MM} {p0 : Nat} {a1 : Int32} {r : Int32} (h : f_X6_count M p0 a1 = some r) : Ct G yX6_count cX6_count 2 (some .int) 0 [rf G p0, .int a1] M (some (.int r)) M := by
  refine ct_of (by decide +kernel) (Nat.le_of_ble_eq_true rfl) (fun X hX O hK hi0 => ?_)
  subst hX
  obtain ⟨lim, hlim⟩ : ∃ z, z = M.1 := ⟨_, rfl⟩
  rw [← hlim] at O
  replace O : OKX X cX6_count RX6 0 lim 2 := O
  have hi : True := trivial
  have hn : M.1 ≤ lim := Nat.le_of_eq hlim.symm
  show WS X M 0 [(0, rf X.1 p0), (1, .int a1)] []
  unfold f_X6_count at h
  obtain ⟨hg0, h⟩ := gd h
  refine s_iload_n (pc := 0) O dX6_count_0 rfl 1 rfl ?_
  obtain ⟨x, hx⟩ : ∃ y : Int32, y = a1 := ⟨_, rfl⟩
  rw [← hx] at h ⊢
  by_cases c0 : x = 0
  · have h := ifp c0 h
    subst c0
    refine s_tabIn (pc := 1) O (tgt := 32) dX6_count_1 (by decide) (by decide) rfl (by decide) ?_
    refine s_aload_n (pc := 32) O dX6_count_32 rfl 0 rfl ?_
    obtain ⟨v1, e, h⟩ := bd h
    refine s_getR (pc := 33) O kc6 (k := 4) rfl tw_253 e dX6_count_33 ?_
    obtain ⟨v2, e, h⟩ := bd h
    refine s_getI (pc := 36) O kc4 (k := 2) rfl tw_236 e dX6_count_36 ?_
    cases h
    exact s_iret (pc := 39) O hK dX6_count_39
  have h := ifn c0 h
  by_cases c1 : x = 1
  · have h := ifp c1 h
    subst c1
    refine s_tabIn (pc := 1) O (tgt := 40) dX6_count_1 (by decide) (by decide) rfl (by decide) ?_
    refine s_aload_n (pc := 40) O dX6_count_40 rfl 0 rfl ?_
    obtain ⟨v3, e, h⟩ := bd h
    refine s_getR (pc := 41) O kc6 (k := 4) rfl tw_253 e dX6_count_41 ?_
    obtain ⟨v4, e, h⟩ := bd h
    refine s_getI (pc := 44) O kc4 (k := 3) rfl tw_239 e dX6_count_44 ?_
    cases h
    exact s_iret (pc := 47) O hK dX6_count_47
  have h := ifn c1 h
  by_cases c2 : x = 2
  · have h := ifp c2 h
    subst c2
    refine s_tabIn (pc := 1) O (tgt := 48) dX6_count_1 (by decide) (by decide) rfl (by decide) ?_
    refine s_aload_n (pc := 48) O dX6_count_48 rfl 0 rfl ?_
    obtain ⟨v5, e, h⟩ := bd h
    refine s_getR (pc := 49) O kc6 (k := 2) rfl tw_251 e dX6_count_49 ?_
    obtain ⟨v6, e, h⟩ := bd h
    refine s_getI (pc := 52) O kc0 (k := 1) rfl tw_160 e dX6_count_52 ?_
    cases h
    exact s_iret (pc := 55) O hK dX6_count_55
  have h := ifn c2 h
  by_cases c3 : x = 3
  · have h := ifp c3 h
    subst c3
    refine s_tabIn (pc := 1) O (tgt := 56) dX6_count_1 (by decide) (by decide) rfl (by decide) ?_
    refine s_aload_n (pc := 56) O dX6_count_56 rfl 0 rfl ?_
    obtain ⟨v7, e, h⟩ := bd h
    refine s_getR (pc := 57) O kc6 (k := 0) rfl tw_249 e dX6_count_57 ?_
    obtain ⟨v8, e, h⟩ := bd h
    refine s_getI (pc := 60) O kc3 (k := 1) rfl tw_71 e dX6_count_60 ?_
    cases h
    exact s_iret (pc := 63) O hK dX6_count_63
  have h := ifn c3 h
  refine s_tabOut (pc := 1) O (tgt := 64) dX6_count_1 (by have := i32_neK (n := 0) (by decide) c0; have := i32_neK (n := 1) (by decide) c1; have := i32_neK (n := 2) (by decide) c2; have := i32_neK (n := 3) (by decide) c3; omega) (by decide) ?_
  refine s_iconst (pc := 64) O (v := (-1)) dX6_count_64 (by decide) ?_
  cases h
  exact s_iret (pc := 65) O hK dX6_count_65

def f_X6_isShape (M : MM) (p0 : Nat) (a1 : Int32) : Option (Int32) :=
  if p0 < M.1 ∧ kd p0 = 6 then (if a1 < 0 then (some 0) else ((fR M p0 6 4).bind fun v1 => (fI M v1 4 3).bind fun v2 => if v2 ≤ a1 then (some 0) else (some 1))) else none
theorem r_X6_isShape {M : MM} {p0 : Nat} {a1 : Int32} {o : Int32} (h : f_X6_isShape M p0 a1 = some o) : p0 < M.1 ∧ kd p0 = 6 := by
  unfold f_X6_isShape at h
  exact (gd h).1
theorem cy_X6_isShape : CallY yX6_isShape cX6_isShape 2 (some .boolean) 1 := ⟨by decide +kernel, tw_426, tw_40, by decide⟩
set_option maxHeartbeats 4000000 in
set_option maxRecDepth 100000 in
theorem c_X6_isShape {G : GG} {M : MM} {p0 : Nat} {a1 : Int32} {r : Int32} (h : f_X6_isShape M p0 a1 = some r) : Ct G yX6_isShape cX6_isShape 2 (some .boolean) 0 [rf G p0, .int a1] M (some (.int r)) M := by
  refine ct_of (by decide +kernel) (Nat.le_of_ble_eq_true rfl) (fun X hX O hK hi0 => ?_)
  subst hX
  obtain ⟨lim, hlim⟩ : ∃ z, z = M.1 := ⟨_, rfl⟩
  rw [← hlim] at O
  replace O : OKX X cX6_isShape RX6 0 lim 2 := O
  have hi : True := trivial
  have hn : M.1 ≤ lim := Nat.le_of_eq hlim.symm
  show WS X M 0 [(0, rf X.1 p0), (1, .int a1)] []
  unfold f_X6_isShape at h
  obtain ⟨hg0, h⟩ := gd h
  refine s_iload_n (pc := 0) O dX6_isShape_0 rfl 1 rfl ?_
  refine s_if_lt (pc := 1) O (tgt := 19) dX6_isShape_1 (by decide) (fun c => ?_) (fun c => ?_)
  · have h := ifp c h
    refine s_iconst (pc := 19) O (v := 0) dX6_isShape_19 (by decide) ?_
    cases h
    exact s_zret (pc := 20) O (by decide) hK dX6_isShape_20
  · have h := ifn c h
    refine s_iload_n (pc := 4) O dX6_isShape_4 rfl 1 rfl ?_
    refine s_aload_n (pc := 5) O dX6_isShape_5 rfl 0 rfl ?_
    obtain ⟨v1, e, h⟩ := bd h
    refine s_getR (pc := 6) O kc6 (k := 4) rfl tw_253 e dX6_isShape_6 ?_
    obtain ⟨v2, e, h⟩ := bd h
    refine s_getI (pc := 9) O kc4 (k := 3) rfl tw_239 e dX6_isShape_9 ?_
    refine s_icmp_ge (pc := 12) O (tgt := 19) dX6_isShape_12 (by decide) (fun c => ?_) (fun c => ?_)
    · have h := ifp c h
      refine s_iconst (pc := 19) O (v := 0) dX6_isShape_19 (by decide) ?_
      cases h
      exact s_zret (pc := 20) O (by decide) hK dX6_isShape_20
    · have h := ifn c h
      refine s_iconst (pc := 15) O (v := 1) dX6_isShape_15 (by decide) ?_
      refine s_goto (pc := 16) O (tgt := 20) dX6_isShape_16 (by decide) ?_
      cases h
      exact s_zret (pc := 20) O (by decide) hK dX6_isShape_20

def f_X6_isSlack (M : MM) (a0 : Int32) : Option (Int32) :=
  if a0 < 0 then (some 0) else (if (2 : Int32) < a0 then (some 0) else (some 1))
theorem cy_X6_isSlack : CallY yX6_isSlack cX6_isSlack 1 (some .boolean) 1 := ⟨by decide +kernel, tw_484, tw_40, by decide⟩
set_option maxHeartbeats 4000000 in
set_option maxRecDepth 100000 in
theorem c_X6_isSlack {G : GG} {M : MM} {a0 : Int32} {r : Int32} (h : f_X6_isSlack M a0 = some r) : Ct G yX6_isSlack cX6_isSlack 1 (some .boolean) 0 [.int a0] M (some (.int r)) M := by
  refine ct_of (by decide +kernel) (Nat.le_of_ble_eq_true rfl) (fun X hX O hK hi0 => ?_)
  subst hX
  obtain ⟨lim, hlim⟩ : ∃ z, z = M.1 := ⟨_, rfl⟩
  rw [← hlim] at O
  replace O : OKX X cX6_isSlack RX6 0 lim 1 := O
  have hi : True := trivial
  have hn : M.1 ≤ lim := Nat.le_of_eq hlim.symm
  show WS X M 0 [(0, .int a0)] []
  unfold f_X6_isSlack at h
  refine s_iload_n (pc := 0) O dX6_isSlack_0 rfl 0 rfl ?_
  refine s_if_lt (pc := 1) O (tgt := 13) dX6_isSlack_1 (by decide) (fun c => ?_) (fun c => ?_)
  · have h := ifp c h
    refine s_iconst (pc := 13) O (v := 0) dX6_isSlack_13 (by decide) ?_
    cases h
    exact s_zret (pc := 14) O (by decide) hK dX6_isSlack_14
  · have h := ifn c h
    refine s_iload_n (pc := 4) O dX6_isSlack_4 rfl 0 rfl ?_
    refine s_iconst (pc := 5) O (v := 2) dX6_isSlack_5 (by decide) ?_
    refine s_icmp_gt (pc := 6) O (tgt := 13) dX6_isSlack_6 (by decide) (fun c => ?_) (fun c => ?_)
    · have h := ifp c h
      refine s_iconst (pc := 13) O (v := 0) dX6_isSlack_13 (by decide) ?_
      cases h
      exact s_zret (pc := 14) O (by decide) hK dX6_isSlack_14
    · have h := ifn c h
      refine s_iconst (pc := 9) O (v := 1) dX6_isSlack_9 (by decide) ?_
      refine s_goto (pc := 10) O (tgt := 14) dX6_isSlack_10 (by decide) ?_
      cases h
      exact s_zret (pc := 14) O (by decide) hK dX6_isSlack_14

def f_X6_isWord (M : MM) (p0 : Nat) (a1 : Int32) : Option (Int32) :=
  if p0 < M.1 ∧ kd p0 = 6 then (if a1 < 0 then (some 0) else ((fR M p0 6 4).bind fun v1 => (fI M v1 4 2).bind fun v2 => if v2 ≤ a1 then (some 0) else (some 1))) else none
theorem r_X6_isWord {M : MM} {p0 : Nat} {a1 : Int32} {o : Int32} (h : f_X6_isWord M p0 a1 = some o) : p0 < M.1 ∧ kd p0 = 6 := by
  unfold f_X6_isWord at h
  exact (gd h).1
theorem cy_X6_isWord : CallY yX6_isWord cX6_isWord 2 (some .boolean) 1 := ⟨by decide +kernel, tw_414, tw_40, by decide⟩
set_option maxHeartbeats 4000000 in
set_option maxRecDepth 100000 in
theorem c_X6_isWord {G : GG} {M : MM} {p0 : Nat} {a1 : Int32} {r : Int32} (h : f_X6_isWord M p0 a1 = some r) : Ct G yX6_isWord cX6_isWord 2 (some .boolean) 0 [rf G p0, .int a1] M (some (.int r)) M := by
  refine ct_of (by decide +kernel) (Nat.le_of_ble_eq_true rfl) (fun X hX O hK hi0 => ?_)
  subst hX
  obtain ⟨lim, hlim⟩ : ∃ z, z = M.1 := ⟨_, rfl⟩
  rw [← hlim] at O
  replace O : OKX X cX6_isWord RX6 0 lim 2 := O
  have hi : True := trivial
  have hn : M.1 ≤ lim := Nat.le_of_eq hlim.symm
  show WS X M 0 [(0, rf X.1 p0), (1, .int a1)] []
  unfold f_X6_isWord at h
  obtain ⟨hg0, h⟩ := gd h
  refine s_iload_n (pc := 0) O dX6_isWord_0 rfl 1 rfl ?_
  refine s_if_lt (pc := 1) O (tgt := 19) dX6_isWord_1 (by decide) (fun c => ?_) (fun c => ?_)
  · have h := ifp c h
    refine s_iconst (pc := 19) O (v := 0) dX6_isWord_19 (by decide) ?_
    cases h
    exact s_zret (pc := 20) O (by decide) hK dX6_isWord_20
  · have h := ifn c h
    refine s_iload_n (pc := 4) O dX6_isWord_4 rfl 1 rfl ?_
    refine s_aload_n (pc := 5) O dX6_isWord_5 rfl 0 rfl ?_
    obtain ⟨v1, e, h⟩ := bd h
    refine s_getR (pc := 6) O kc6 (k := 4) rfl tw_253 e dX6_isWord_6 ?_
    obtain ⟨v2, e, h⟩ := bd h
    refine s_getI (pc := 9) O kc4 (k := 2) rfl tw_236 e dX6_isWord_9 ?_
    refine s_icmp_ge (pc := 12) O (tgt := 19) dX6_isWord_12 (by decide) (fun c => ?_) (fun c => ?_)
    · have h := ifp c h
      refine s_iconst (pc := 19) O (v := 0) dX6_isWord_19 (by decide) ?_
      cases h
      exact s_zret (pc := 20) O (by decide) hK dX6_isWord_20
    · have h := ifn c h
      refine s_iconst (pc := 15) O (v := 1) dX6_isWord_15 (by decide) ?_
      refine s_goto (pc := 16) O (tgt := 20) dX6_isWord_16 (by decide) ?_
      cases h
      exact s_zret (pc := 20) O (by decide) hK dX6_isWord_20

def f_X6_rateWord (M : MM) (p0 : Nat) (a1 : Int32) : Option (Int32 × MM) :=
  if p0 < M.1 ∧ kd p0 = 6 then ((fJ M p0 6 6).bind fun v1 => (wfJ M p0 6 6 ((v1 + 1))).bind fun M2 => (fR M2 p0 6 4).bind fun v3 => (fR M2 v3 4 0).bind fun v4 => (aR M2 v4 13 a1).bind fun v5 => (fI M2 v5 5 3).bind fun v6 => some ((v6, M2))) else none
theorem r_X6_rateWord {M : MM} {p0 : Nat} {a1 : Int32} {o : Int32 × MM} (h : f_X6_rateWord M p0 a1 = some o) : p0 < M.1 ∧ kd p0 = 6 := by
  unfold f_X6_rateWord at h
  exact (gd h).1
theorem cy_X6_rateWord : CallY yX6_rateWord cX6_rateWord 2 (some .int) 1 := ⟨by decide +kernel, tw_586, tw_40, by decide⟩
set_option maxHeartbeats 4000000 in
set_option maxRecDepth 100000 in
theorem c_X6_rateWord {G : GG} {M : MM} {p0 : Nat} {a1 : Int32} {r : Int32} {M' : MM} (h : f_X6_rateWord M p0 a1 = some (r, M')) (hn : M.1 ≤ M'.1) : Ct G yX6_rateWord cX6_rateWord 2 (some .int) 0 [rf G p0, .int a1] M (some (.int r)) M' := by
  refine ct_of (by decide +kernel) (Nat.le_of_ble_eq_true rfl) (fun X hX O hK hi0 => ?_)
  subst hX
  obtain ⟨lim, hlim⟩ : ∃ z, z = M'.1 := ⟨_, rfl⟩
  rw [← hlim] at O hn
  replace O : OKX X cX6_rateWord RX6 0 lim 2 := O
  have hi : True := trivial
  show WS X M 0 [(0, rf X.1 p0), (1, .int a1)] []
  replace hK : (fun (q : Int32 × MM) => RTX X (some .int) (some (.int q.1)) q.2) (r, M') := hK
  generalize (r, M') = o at h hK
  unfold f_X6_rateWord at h
  obtain ⟨hg0, h⟩ := gd h
  refine s_aload_n (pc := 0) O dX6_rateWord_0 rfl 0 rfl ?_
  refine s_dup (pc := 1) O dX6_rateWord_1 rfl ?_
  obtain ⟨v1, e, h⟩ := bd h
  refine s_getJ (pc := 2) O kc6 (k := 6) rfl tw_255 e dX6_rateWord_2 ?_
  refine s_lconst (pc := 5) O (v := 1) dX6_rateWord_5 (by decide) ?_
  refine s_ladd (pc := 6) O dX6_rateWord_6 ?_
  obtain ⟨M2, e, h⟩ := bd h
  refine s_putJ (pc := 7) O kc6 (k := 6) rfl rfl rfl tw_255 e dX6_rateWord_7 ?_
  have hn : M2.1 ≤ lim := by rw [wfJ_n e]; exact hn
  refine s_aload_n (pc := 10) O dX6_rateWord_10 rfl 0 rfl ?_
  obtain ⟨v3, e, h⟩ := bd h
  refine s_getR (pc := 11) O kc6 (k := 4) rfl tw_253 e dX6_rateWord_11 ?_
  obtain ⟨v4, e, h⟩ := bd h
  refine s_getR (pc := 14) O kc4 (k := 0) rfl tw_230 e dX6_rateWord_14 ?_
  refine s_iload_n (pc := 17) O dX6_rateWord_17 rfl 1 rfl ?_
  obtain ⟨v5, e, h⟩ := bd h
  refine s_aldR13 (pc := 18) O e dX6_rateWord_18 ?_
  obtain ⟨v6, e, h⟩ := bd h
  refine s_getI (pc := 19) O kc5 (k := 3) rfl tw_197 e dX6_rateWord_19 ?_
  cases h
  exact s_iret (pc := 22) O hK dX6_rateWord_22

def j_X6_side_68 (M : MM) (p0 : Nat) (a1 : Int32) (a3 : Int32) (s0 : Int32) (s1 : Int32) : Option ((Int32) ⊕ (Int32 × Int32)) :=
  some ((.inr ((s1 + s0), (a3 + 1))))
set_option maxHeartbeats 4000000 in
set_option maxRecDepth 100000 in
theorem g_X6_side_68 {X : CT} {lim : Nat} {M : MM} {p0 : Nat} {a1 : Int32} {a3 : Int32} {s0 : Int32} {s1 : Int32} (O : OKX X cX6_side RX6 0 lim 5) (hi : True) (hn : M.1 ≤ lim) {o : (Int32) ⊕ (Int32 × Int32)} (h : j_X6_side_68 M p0 a1 a3 s0 s1 = some o) (hK : (KI (fun (q : Int32) => RTX X (some .int) (some (.int q)) M) (fun (t : Int32 × Int32) => WS X M 15 [(0, rf X.1 p0), (1, .int a1), (2, .int t.1), (3, .int t.2)] [])) o) : WS X M 68 [(0, rf X.1 p0), (1, .int a1), (3, .int a3)] [.int s0, .int s1] := by
  unfold j_X6_side_68 at h
  refine s_iadd (pc := 68) O dX6_side_68 ?_
  refine s_istore_n (pc := 69) O (loc' := [(2, .int (s1 + s0)), (0, rf X.1 p0), (1, .int a1), (3, .int a3)]) dX6_side_69 rfl (by decide) rfl ?_
  refine s_iinc (pc := 70) O (v := (a3 + 1)) (loc' := [(3, .int (a3 + 1)), (2, .int (s1 + s0)), (0, rf X.1 p0), (1, .int a1)]) dX6_side_70 3 rfl rfl (by decide) rfl ?_
  refine s_goto (pc := 73) O (tgt := 15) dX6_side_73 (by decide) ?_
  cases h
  exact s_sub (pc := 15) O [2, 3, 1, 0] rfl hK
def z_X6_side_15 (M : MM) (p0 : Nat) (a1 : Int32) (a2 : Int32) (a3 : Int32) : Option ((Int32) ⊕ (Int32 × Int32)) :=
  (fR M p0 6 2).bind fun v1 => (fI M v1 0 1).bind fun v2 => if v2 ≤ a3 then (some ((.inl a2))) else ((fR M p0 6 2).bind fun v3 => (fR M v3 0 0).bind fun v4 => (aI M v4 a3).bind fun v5 => if (a3 - a3 / 2 * 2) = a1 then ((fR M p0 6 1).bind fun v9 => (fR M v9 1 2).bind fun v10 => (aI M v10 v5).bind fun v11 => j_X6_side_68 M p0 a1 a3 v11 a2) else ((fR M p0 6 1).bind fun v6 => (fR M v6 1 3).bind fun v7 => (aI M v7 v5).bind fun v8 => j_X6_side_68 M p0 a1 a3 v8 a2))
set_option maxHeartbeats 4000000 in
set_option maxRecDepth 100000 in
theorem b_X6_side_15 {X : CT} {lim : Nat} {M : MM} {p0 : Nat} {a1 : Int32} {a2 : Int32} {a3 : Int32} (O : OKX X cX6_side RX6 0 lim 5) (hi : True) (hn : M.1 ≤ lim) {o : (Int32) ⊕ (Int32 × Int32)} (h : z_X6_side_15 M p0 a1 a2 a3 = some o) (hK : (KI (fun (q : Int32) => RTX X (some .int) (some (.int q)) M) (fun (t : Int32 × Int32) => WS X M 15 [(0, rf X.1 p0), (1, .int a1), (2, .int t.1), (3, .int t.2)] [])) o) : WS X M 15 [(0, rf X.1 p0), (1, .int a1), (2, .int a2), (3, .int a3)] [] := by
  unfold z_X6_side_15 at h
  refine s_iload_n (pc := 15) O dX6_side_15 rfl 3 rfl ?_
  refine s_aload_n (pc := 16) O dX6_side_16 rfl 0 rfl ?_
  obtain ⟨v1, e, h⟩ := bd h
  refine s_getR (pc := 17) O kc6 (k := 2) rfl tw_251 e dX6_side_17 ?_
  obtain ⟨v2, e, h⟩ := bd h
  refine s_getI (pc := 20) O kc0 (k := 1) rfl tw_160 e dX6_side_20 ?_
  refine s_icmp_ge (pc := 23) O (tgt := 76) dX6_side_23 (by decide) (fun c => ?_) (fun c => ?_)
  · have h := ifp c h
    refine s_iload_n (pc := 76) O dX6_side_76 rfl 2 rfl ?_
    cases h
    exact s_iret (pc := 77) O hK dX6_side_77
  · have h := ifn c h
    refine s_aload_n (pc := 26) O dX6_side_26 rfl 0 rfl ?_
    obtain ⟨v3, e, h⟩ := bd h
    refine s_getR (pc := 27) O kc6 (k := 2) rfl tw_251 e dX6_side_27 ?_
    obtain ⟨v4, e, h⟩ := bd h
    refine s_getR (pc := 30) O kc0 (k := 0) rfl tw_158 e dX6_side_30 ?_
    refine s_iload_n (pc := 33) O dX6_side_33 rfl 3 rfl ?_
    obtain ⟨v5, e, h⟩ := bd h
    refine s_aldI (pc := 34) O e dX6_side_34 ?_
    refine s_istore (pc := 35) O (loc' := [(4, .int v5), (0, rf X.1 p0), (1, .int a1), (2, .int a2), (3, .int a3)]) dX6_side_35 (by decide) rfl ?_
    refine s_iload_n (pc := 37) O dX6_side_37 rfl 3 rfl ?_
    refine s_iload_n (pc := 38) O dX6_side_38 rfl 4 rfl ?_
    refine s_iconst (pc := 39) O (v := 2) dX6_side_39 (by decide) ?_
    refine s_irem (pc := 40) O dX6_side_40 (by decide) ?_
    refine s_iload_n (pc := 41) O dX6_side_41 rfl 2 rfl ?_
    refine s_icmp_ne (pc := 42) O (tgt := 58) dX6_side_42 (by decide) (fun c => ?_) (fun c => ?_)
    · have h := ifn c h
      refine s_aload_n (pc := 58) O dX6_side_58 rfl 1 rfl ?_
      obtain ⟨v6, e, h⟩ := bd h
      refine s_getR (pc := 59) O kc6 (k := 1) rfl tw_250 e dX6_side_59 ?_
      obtain ⟨v7, e, h⟩ := bd h
      refine s_getR (pc := 62) O kc1 (k := 3) rfl tw_106 e dX6_side_62 ?_
      refine s_iload (pc := 65) O dX6_side_65 0 rfl ?_
      obtain ⟨v8, e, h⟩ := bd h
      refine s_aldI (pc := 67) O e dX6_side_67 ?_
      exact s_sub (pc := 68) O [1, 2, 4] rfl (g_X6_side_68 O hi hn h hK)
    · have h := ifp c h
      refine s_aload_n (pc := 45) O dX6_side_45 rfl 1 rfl ?_
      obtain ⟨v9, e, h⟩ := bd h
      refine s_getR (pc := 46) O kc6 (k := 1) rfl tw_250 e dX6_side_46 ?_
      obtain ⟨v10, e, h⟩ := bd h
      refine s_getR (pc := 49) O kc1 (k := 2) rfl tw_104 e dX6_side_49 ?_
      refine s_iload (pc := 52) O dX6_side_52 0 rfl ?_
      obtain ⟨v11, e, h⟩ := bd h
      refine s_aldI (pc := 54) O e dX6_side_54 ?_
      refine s_goto (pc := 55) O (tgt := 68) dX6_side_55 (by decide) ?_
      exact s_sub (pc := 68) O [1, 2, 4] rfl (g_X6_side_68 O hi hn h hK)
set_option maxHeartbeats 4000000 in
set_option maxRecDepth 100000 in
theorem l_X6_side_15 {X : CT} {lim : Nat} {M : MM} {p0 : Nat} {a1 : Int32} {a2 : Int32} {a3 : Int32} (O : OKX X cX6_side RX6 0 lim 5) (hi : True) (hn : M.1 ≤ lim) {o : Int32} {n : Nat} (h : lp (fun t => z_X6_side_15 M p0 a1 t.1 t.2) n (a2, a3) = some o) (hK : (fun (q : Int32) => RTX X (some .int) (some (.int q)) M) o) : WS X M 15 [(0, rf X.1 p0), (1, .int a1), (2, .int a2), (3, .int a3)] [] := by
  refine lp_ind (P := fun (o : Int32) (t : Int32 × Int32) => (fun (q : Int32) => RTX X (some .int) (some (.int q)) M) o → WS X M 15 [(0, rf X.1 p0), (1, .int a1), (2, .int t.1), (3, .int t.2)] []) (fun t o hs  hK => ?_) n (a2, a3) o h  hK
  rcases hs with h | ⟨u, h, hu⟩
  · exact b_X6_side_15 O hi hn h hK
  · exact b_X6_side_15 O hi hn h (show KI _ _ (.inr u) from hu hK)
def f_X6_side (M : MM) (p0 : Nat) (a1 : Int32) : Option (Int32) :=
  if p0 < M.1 ∧ kd p0 = 6 then (if a1 < 0 then (some ((-1))) else (if a1 < 2 then (lp (fun t => z_X6_side_15 M p0 a1 t.1 t.2) FU (0, 0)) else (some ((-1))))) else none
theorem r_X6_side {M : MM} {p0 : Nat} {a1 : Int32} {o : Int32} (h : f_X6_side M p0 a1 = some o) : p0 < M.1 ∧ kd p0 = 6 := by
  unfold f_X6_side at h
  exact (gd h).1
theorem cy_X6_side : CallY yX6_side cX6_side 5 (some .int) 1 := ⟨by decide +kernel, tw_462, tw_40, by decide⟩
set_option maxHeartbeats 4000000 in
set_option maxRecDepth 100000 in
theorem c_X6_side {G : GG} {M : MM} {p0 : Nat} {a1 : Int32} {r : Int32} (h : f_X6_side M p0 a1 = some r) : Ct G yX6_side cX6_side 5 (some .int) 0 [rf G p0, .int a1] M (some (.int r)) M := by
  refine ct_of (by decide +kernel) (Nat.le_of_ble_eq_true rfl) (fun X hX O hK hi0 => ?_)
  subst hX
  obtain ⟨lim, hlim⟩ : ∃ z, z = M.1 := ⟨_, rfl⟩
  rw [← hlim] at O
  replace O : OKX X cX6_side RX6 0 lim 5 := O
  have hi : True := trivial
  have hn : M.1 ≤ lim := Nat.le_of_eq hlim.symm
  show WS X M 0 [(0, rf X.1 p0), (1, .int a1)] []
  unfold f_X6_side at h
  obtain ⟨hg0, h⟩ := gd h
  refine s_iload_n (pc := 0) O dX6_side_0 rfl 1 rfl ?_
  refine s_if_lt (pc := 1) O (tgt := 9) dX6_side_1 (by decide) (fun c => ?_) (fun c => ?_)
  · have h := ifp c h
    refine s_iconst (pc := 9) O (v := (-1)) dX6_side_9 (by decide) ?_
    cases h
    exact s_iret (pc := 10) O hK dX6_side_10
  · have h := ifn c h
    refine s_iload_n (pc := 4) O dX6_side_4 rfl 1 rfl ?_
    refine s_iconst (pc := 5) O (v := 2) dX6_side_5 (by decide) ?_
    refine s_icmp_lt (pc := 6) O (tgt := 11) dX6_side_6 (by decide) (fun c => ?_) (fun c => ?_)
    · have h := ifp c h
      refine s_iconst (pc := 11) O (v := 0) dX6_side_11 (by decide) ?_
      refine s_istore_n (pc := 12) O (loc' := [(2, .int 0), (0, rf X.1 p0), (1, .int a1)]) dX6_side_12 rfl (by decide) rfl ?_
      refine s_iconst (pc := 13) O (v := 0) dX6_side_13 (by decide) ?_
      refine s_istore_n (pc := 14) O (loc' := [(3, .int 0), (2, .int 0), (0, rf X.1 p0), (1, .int a1)]) dX6_side_14 rfl (by decide) rfl ?_
      exact s_sub (pc := 15) O [2, 3, 1, 0] rfl (l_X6_side_15 O hi hn h hK)
    · have h := ifn c h
      refine s_iconst (pc := 9) O (v := (-1)) dX6_side_9 (by decide) ?_
      cases h
      exact s_iret (pc := 10) O hK dX6_side_10

def f_X6_trace (M : MM) (p0 : Nat) : Option (Int64) :=
  if p0 < M.1 ∧ kd p0 = 6 then ((fJ M p0 6 6).bind fun v1 => some v1) else none
theorem r_X6_trace {M : MM} {p0 : Nat} {o : Int64} (h : f_X6_trace M p0 = some o) : p0 < M.1 ∧ kd p0 = 6 := by
  unfold f_X6_trace at h
  exact (gd h).1
theorem cy_X6_trace : CallY yX6_trace cX6_trace 1 (some .long) 0 := ⟨by decide +kernel, tw_635, tw_40, by decide⟩
set_option maxHeartbeats 4000000 in
set_option maxRecDepth 100000 in
theorem c_X6_trace {G : GG} {M : MM} {p0 : Nat} {r : Int64} (h : f_X6_trace M p0 = some r) : Ct G yX6_trace cX6_trace 1 (some .long) 0 [rf G p0] M (some (.long r)) M := by
  refine ct_of (by decide +kernel) (Nat.le_of_ble_eq_true rfl) (fun X hX O hK hi0 => ?_)
  subst hX
  obtain ⟨lim, hlim⟩ : ∃ z, z = M.1 := ⟨_, rfl⟩
  rw [← hlim] at O
  replace O : OKX X cX6_trace RX6 0 lim 1 := O
  have hi : True := trivial
  have hn : M.1 ≤ lim := Nat.le_of_eq hlim.symm
  show WS X M 0 [(0, rf X.1 p0)] []
  unfold f_X6_trace at h
  obtain ⟨hg0, h⟩ := gd h
  refine s_aload_n (pc := 0) O dX6_trace_0 rfl 0 rfl ?_
  obtain ⟨v1, e, h⟩ := bd h
  refine s_getJ (pc := 1) O kc6 (k := 6) rfl tw_255 e dX6_trace_1 ?_
  cases h
  exact s_lret (pc := 4) O hK dX6_trace_4

def f_X6_undo (M : MM) (p0 : Nat) : Option (Int32 × MM) :=
  if p0 < M.1 ∧ kd p0 = 6 then ((fR M p0 6 2).bind fun v1 => (fI M v1 0 1).bind fun v2 => if (0 : Int32) < v2 then ((fR M p0 6 2).bind fun v3 => (fI M v3 0 1).bind fun v4 => (wfI M v3 0 1 ((v4 - 1))).bind fun M5 => (fR M5 p0 6 2).bind fun v6 => (fI M5 v6 0 1).bind fun v7 => some ((v7, M5))) else (some (((-2), M)))) else none
theorem r_X6_undo {M : MM} {p0 : Nat} {o : Int32 × MM} (h : f_X6_undo M p0 = some o) : p0 < M.1 ∧ kd p0 = 6 := by
  unfold f_X6_undo at h
  exact (gd h).1
theorem cy_X6_undo : CallY yX6_undo cX6_undo 1 (some .int) 0 := ⟨by decide +kernel, tw_454, tw_40, by decide⟩
set_option maxHeartbeats 4000000 in
set_option maxRecDepth 100000 in
theorem c_X6_undo {G : GG} {M : MM} {p0 : Nat} {r : Int32} {M' : MM} (h : f_X6_undo M p0 = some (r, M')) (hn : M.1 ≤ M'.1) : Ct G yX6_undo cX6_undo 1 (some .int) 0 [rf G p0] M (some (.int r)) M' := by
  refine ct_of (by decide +kernel) (Nat.le_of_ble_eq_true rfl) (fun X hX O hK hi0 => ?_)
  subst hX
  obtain ⟨lim, hlim⟩ : ∃ z, z = M'.1 := ⟨_, rfl⟩
  rw [← hlim] at O hn
  replace O : OKX X cX6_undo RX6 0 lim 1 := O
  have hi : True := trivial
  show WS X M 0 [(0, rf X.1 p0)] []
  replace hK : (fun (q : Int32 × MM) => RTX X (some .int) (some (.int q.1)) q.2) (r, M') := hK
  generalize (r, M') = o at h hK
  unfold f_X6_undo at h
  obtain ⟨hg0, h⟩ := gd h
  refine s_aload_n (pc := 0) O dX6_undo_0 rfl 0 rfl ?_
  obtain ⟨v1, e, h⟩ := bd h
  refine s_getR (pc := 1) O kc6 (k := 2) rfl tw_251 e dX6_undo_1 ?_
  obtain ⟨v2, e, h⟩ := bd h
  refine s_getI (pc := 4) O kc0 (k := 1) rfl tw_160 e dX6_undo_4 ?_
  refine s_if_gt (pc := 7) O (tgt := 13) dX6_undo_7 (by decide) (fun c => ?_) (fun c => ?_)
  · have h := ifp c h
    refine s_aload_n (pc := 13) O dX6_undo_13 rfl 0 rfl ?_
    obtain ⟨v3, e, h⟩ := bd h
    refine s_getR (pc := 14) O kc6 (k := 2) rfl tw_251 e dX6_undo_14 ?_
    refine s_dup (pc := 17) O dX6_undo_17 rfl ?_
    obtain ⟨v4, e, h⟩ := bd h
    refine s_getI (pc := 18) O kc0 (k := 1) rfl tw_160 e dX6_undo_18 ?_
    refine s_iconst (pc := 21) O (v := 1) dX6_undo_21 (by decide) ?_
    refine s_isub (pc := 22) O dX6_undo_22 ?_
    obtain ⟨M5, e, h⟩ := bd h
    refine s_putI (pc := 23) O kc0 (k := 1) rfl rfl rfl tw_160 e dX6_undo_23 ?_
    have hn : M5.1 ≤ lim := by rw [wfI_n e]; exact hn
    refine s_aload_n (pc := 26) O dX6_undo_26 rfl 0 rfl ?_
    obtain ⟨v6, e, h⟩ := bd h
    refine s_getR (pc := 27) O kc6 (k := 2) rfl tw_251 e dX6_undo_27 ?_
    obtain ⟨v7, e, h⟩ := bd h
    refine s_getI (pc := 30) O kc0 (k := 1) rfl tw_160 e dX6_undo_30 ?_
    cases h
    exact s_iret (pc := 33) O hK dX6_undo_33
  · have h := ifn c h
    refine s_bipush (pc := 10) O (v := (-2)) dX6_undo_10 (by decide) ?_
    cases h
    exact s_iret (pc := 12) O hK dX6_undo_12

def f_X6_wrote (M : MM) (p0 : Nat) (a1 : Int32) : Option (Int32) :=
  if p0 < M.1 ∧ kd p0 = 6 then (if (0 : Int32) ≤ a1 then ((fR M p0 6 2).bind fun v1 => (fI M v1 0 1).bind fun v2 => if v2 ≤ a1 then (some ((-5))) else ((fR M p0 6 2).bind fun v3 => (fR M v3 0 0).bind fun v4 => (aI M v4 a1).bind fun v5 => some v5)) else (some ((-1)))) else none
theorem r_X6_wrote {M : MM} {p0 : Nat} {a1 : Int32} {o : Int32} (h : f_X6_wrote M p0 a1 = some o) : p0 < M.1 ∧ kd p0 = 6 := by
  unfold f_X6_wrote at h
  exact (gd h).1
theorem cy_X6_wrote : CallY yX6_wrote cX6_wrote 2 (some .int) 1 := ⟨by decide +kernel, tw_458, tw_40, by decide⟩
set_option maxHeartbeats 4000000 in
set_option maxRecDepth 100000 in
theorem c_X6_wrote {G : GG} {M : MM} {p0 : Nat} {a1 : Int32} {r : Int32} (h : f_X6_wrote M p0 a1 = some r) : Ct G yX6_wrote cX6_wrote 2 (some .int) 0 [rf G p0, .int a1] M (some (.int r)) M := by
  refine ct_of (by decide +kernel) (Nat.le_of_ble_eq_true rfl) (fun X hX O hK hi0 => ?_)
  subst hX
  obtain ⟨lim, hlim⟩ : ∃ z, z = M.1 := ⟨_, rfl⟩
  rw [← hlim] at O
  replace O : OKX X cX6_wrote RX6 0 lim 2 := O
  have hi : True := trivial
  have hn : M.1 ≤ lim := Nat.le_of_eq hlim.symm
  show WS X M 0 [(0, rf X.1 p0), (1, .int a1)] []
  unfold f_X6_wrote at h
  obtain ⟨hg0, h⟩ := gd h
  refine s_iload_n (pc := 0) O dX6_wrote_0 rfl 1 rfl ?_
  refine s_if_ge (pc := 1) O (tgt := 6) dX6_wrote_1 (by decide) (fun c => ?_) (fun c => ?_)
  · have h := ifp c h
    refine s_iload_n (pc := 6) O dX6_wrote_6 rfl 1 rfl ?_
    refine s_aload_n (pc := 7) O dX6_wrote_7 rfl 0 rfl ?_
    obtain ⟨v1, e, h⟩ := bd h
    refine s_getR (pc := 8) O kc6 (k := 2) rfl tw_251 e dX6_wrote_8 ?_
    obtain ⟨v2, e, h⟩ := bd h
    refine s_getI (pc := 11) O kc0 (k := 1) rfl tw_160 e dX6_wrote_11 ?_
    refine s_icmp_ge (pc := 14) O (tgt := 29) dX6_wrote_14 (by decide) (fun c => ?_) (fun c => ?_)
    · have h := ifp c h
      refine s_bipush (pc := 29) O (v := (-5)) dX6_wrote_29 (by decide) ?_
      cases h
      exact s_iret (pc := 31) O hK dX6_wrote_31
    · have h := ifn c h
      refine s_aload_n (pc := 17) O dX6_wrote_17 rfl 0 rfl ?_
      obtain ⟨v3, e, h⟩ := bd h
      refine s_getR (pc := 18) O kc6 (k := 2) rfl tw_251 e dX6_wrote_18 ?_
      obtain ⟨v4, e, h⟩ := bd h
      refine s_getR (pc := 21) O kc0 (k := 0) rfl tw_158 e dX6_wrote_21 ?_
      refine s_iload_n (pc := 24) O dX6_wrote_24 rfl 1 rfl ?_
      obtain ⟨v5, e, h⟩ := bd h
      refine s_aldI (pc := 25) O e dX6_wrote_25 ?_
      refine s_goto (pc := 26) O (tgt := 31) dX6_wrote_26 (by decide) ?_
      cases h
      exact s_iret (pc := 31) O hK dX6_wrote_31
  · have h := ifn c h
    refine s_iconst (pc := 4) O (v := (-1)) dX6_wrote_4 (by decide) ?_
    cases h
    exact s_iret (pc := 5) O hK dX6_wrote_5

def f_X0_init (lim : Nat) (M : MM) (p0 : Nat) : Option (MM) :=
  if p0 < M.1 ∧ kd p0 = 0 then ((nArr M lim 8 12).bind fun M1 => (wfR M1 p0 0 0 M.1).bind fun M2 => some M2) else none
theorem r_X0_init {lim : Nat} {M : MM} {p0 : Nat} {o : MM} (h : f_X0_init lim M p0 = some o) : p0 < M.1 ∧ kd p0 = 0 := by
  unfold f_X0_init at h
  exact (gd h).1
theorem cy_X0_init : CallY yX0_init cX0_init 1 (none) 0 := ⟨by decide +kernel, tw_155, tw_43, by decide⟩
set_option maxHeartbeats 4000000 in
set_option maxRecDepth 100000 in
theorem c_X0_init {G : GG} {M : MM} {p0 : Nat} {M' : MM} (h : f_X0_init M'.1 M p0 = some M') (hn : M.1 ≤ M'.1) : Ct G yX0_init cX0_init 1 (none) 1 [rf G p0] M (none) M' := by
  refine ct_of (by decide +kernel) (Nat.le_of_ble_eq_true rfl) (fun X hX O hK hi0 => ?_)
  subst hX
  obtain ⟨lim, hlim⟩ : ∃ z, z = M'.1 := ⟨_, rfl⟩
  rw [← hlim] at O hn h
  replace O : OKX X cX0_init RX0 1 lim 1 := O
  have hi : isInit X := hi0 rfl
  show WS X M 0 [(0, rf X.1 p0)] []
  unfold f_X0_init at h
  obtain ⟨hg0, h⟩ := gd h
  refine s_aload_n (pc := 0) O dX0_init_0 rfl 0 rfl ?_
  refine s_objInit (pc := 1) O tw_156 tw_60 tw_61 (by decide) (Nat.le_of_ble_eq_true rfl) dX0_init_1 ?_
  refine s_aload_n (pc := 4) O dX0_init_4 rfl 0 rfl ?_
  refine s_bipush (pc := 5) O (v := 12) dX0_init_5 (by decide) ?_
  obtain ⟨M1, e, h⟩ := bd h
  refine s_newaI (pc := 7) O tw_94 (ln_small _) e dX0_init_7 ?_
  have hn : M1.1 ≤ lim := nArr_n e
  obtain ⟨M2, e, h⟩ := bd h
  refine s_putRF (pc := 9) O kc0 (k := 0) rfl (Or.inr ⟨_, rfl⟩) rfl hi rfl tw_157 e dX0_init_9 ?_
  have hn : M2.1 ≤ lim := by rw [wfR_n e]; exact hn
  cases h
  exact s_vret (pc := 12) O hK dX0_init_12

def j_X1_bestSet_44 (M : MM) (p0 : Nat) (a1 : Int32) (a2 : Int32) (a3 : Int32) (a4 : Int32) : Option ((Int32) ⊕ (Int32 × Int32 × Int32)) :=
  some ((.inr (a2, a3, (a4 + 1))))
set_option maxHeartbeats 4000000 in
set_option maxRecDepth 100000 in
theorem g_X1_bestSet_44 {X : CT} {lim : Nat} {M : MM} {p0 : Nat} {a1 : Int32} {a2 : Int32} {a3 : Int32} {a4 : Int32} (O : OKX X cX1_bestSet RX1 1 lim 6) (hi : True) (hn : M.1 ≤ lim) {o : (Int32) ⊕ (Int32 × Int32 × Int32)} (h : j_X1_bestSet_44 M p0 a1 a2 a3 a4 = some o) (hK : (KI (fun (q : Int32) => RTX X (some .int) (some (.int q)) M) (fun (t : Int32 × Int32 × Int32) => WS X M 7 [(0, rf X.1 p0), (1, .int a1), (2, .int t.1), (3, .int t.2.1), (4, .int t.2.2)] [])) o) : WS X M 44 [(0, rf X.1 p0), (1, .int a1), (2, .int a2), (3, .int a3), (4, .int a4)] [] := by
  unfold j_X1_bestSet_44 at h
  refine s_iinc (pc := 44) O (v := (a4 + 1)) (loc' := [(4, .int (a4 + 1)), (0, rf X.1 p0), (1, .int a1), (2, .int a2), (3, .int a3)]) dX1_bestSet_44 4 rfl rfl (by decide) rfl ?_
  refine s_goto (pc := 47) O (tgt := 7) dX1_bestSet_47 (by decide) ?_
  cases h
  exact s_sub (pc := 7) O [1, 2, 3, 4, 0] rfl hK
def z_X1_bestSet_7 (M : MM) (p0 : Nat) (a1 : Int32) (a2 : Int32) (a3 : Int32) (a4 : Int32) : Option ((Int32) ⊕ (Int32 × Int32 × Int32)) :=
  if (256 : Int32) ≤ a4 then (some ((.inl a2))) else ((f_J6_bitCount_0f7a4 M a4).bind fun v1 => if v1 = a1 then ((f_X1_countWithin M p0 a4).bind fun v2 => if v2 ≤ a3 then (j_X1_bestSet_44 M p0 a1 a2 a3 a4) else (j_X1_bestSet_44 M p0 a1 a4 v2 a4)) else (j_X1_bestSet_44 M p0 a1 a2 a3 a4))
set_option maxHeartbeats 4000000 in
set_option maxRecDepth 100000 in
theorem b_X1_bestSet_7 {X : CT} {lim : Nat} {M : MM} {p0 : Nat} {a1 : Int32} {a2 : Int32} {a3 : Int32} {a4 : Int32} (O : OKX X cX1_bestSet RX1 1 lim 6) (hi : True) (hn : M.1 ≤ lim) {o : (Int32) ⊕ (Int32 × Int32 × Int32)} (h : z_X1_bestSet_7 M p0 a1 a2 a3 a4 = some o) (hK : (KI (fun (q : Int32) => RTX X (some .int) (some (.int q)) M) (fun (t : Int32 × Int32 × Int32) => WS X M 7 [(0, rf X.1 p0), (1, .int a1), (2, .int t.1), (3, .int t.2.1), (4, .int t.2.2)] [])) o) : WS X M 7 [(0, rf X.1 p0), (1, .int a1), (2, .int a2), (3, .int a3), (4, .int a4)] [] := by
  unfold z_X1_bestSet_7 at h
  refine s_iload (pc := 7) O dX1_bestSet_7 4 rfl ?_
  refine s_sipush (pc := 9) O (v := 256) dX1_bestSet_9 (by decide) ?_
  refine s_icmp_ge (pc := 12) O (tgt := 50) dX1_bestSet_12 (by decide) (fun c => ?_) (fun c => ?_)
  · have h := ifp c h
    refine s_iload_n (pc := 50) O dX1_bestSet_50 rfl 2 rfl ?_
    cases h
    exact s_iret (pc := 51) O hK dX1_bestSet_51
  · have h := ifn c h
    refine s_iload (pc := 15) O dX1_bestSet_15 4 rfl ?_
    obtain ⟨v1, e, h⟩ := bd h
    refine s_callSi (pc := 17) O (As := [.int a4]) (c_J6_bitCount_0f7a4 (G := X.1) e) cy_J6_bitCount_0f7a4 tw_557 tw_558 (by decide) rfl (Nat.le_refl _) hn rfl (Nat.le_of_ble_eq_true rfl) dX1_bestSet_17 ?_
    refine s_iload_n (pc := 20) O dX1_bestSet_20 rfl 1 rfl ?_
    refine s_icmp_ne (pc := 21) O (tgt := 44) dX1_bestSet_21 (by decide) (fun c => ?_) (fun c => ?_)
    · have h := ifn c h
      exact s_sub (pc := 44) O [0, 1, 2, 3, 4] rfl (g_X1_bestSet_44 O hi hn h hK)
    · have h := ifp c h
      refine s_aload_n (pc := 24) O dX1_bestSet_24 rfl 0 rfl ?_
      refine s_iload (pc := 25) O dX1_bestSet_25 4 rfl ?_
      obtain ⟨v2, e, h⟩ := bd h
      refine s_callVi (pc := 27) O (As := [.int a4]) kc1 (c_X1_countWithin (G := X.1) e) cy_X1_countWithin tw_563 tw_564 tw_565 (by decide) rfl (Nat.le_refl _) hn (r_X1_countWithin e).1 (r_X1_countWithin e).2 rfl (Nat.le_of_ble_eq_true rfl) dX1_bestSet_27 ?_
      refine s_istore (pc := 30) O (loc' := [(5, .int v2), (0, rf X.1 p0), (1, .int a1), (2, .int a2), (3, .int a3), (4, .int a4)]) dX1_bestSet_30 (by decide) rfl ?_
      refine s_iload (pc := 32) O dX1_bestSet_32 0 rfl ?_
      refine s_iload_n (pc := 34) O dX1_bestSet_34 rfl 4 rfl ?_
      refine s_icmp_le (pc := 35) O (tgt := 44) dX1_bestSet_35 (by decide) (fun c => ?_) (fun c => ?_)
      · have h := ifp c h
        exact s_sub (pc := 44) O [1, 2, 3, 4, 5] rfl (g_X1_bestSet_44 O hi hn h hK)
      · have h := ifn c h
        refine s_iload (pc := 38) O dX1_bestSet_38 5 rfl ?_
        refine s_istore_n (pc := 40) O (loc' := [(2, .int a4), (5, .int v2), (0, rf X.1 p0), (1, .int a1), (3, .int a3), (4, .int a4)]) dX1_bestSet_40 rfl (by decide) rfl ?_
        refine s_iload (pc := 41) O dX1_bestSet_41 1 rfl ?_
        refine s_istore_n (pc := 43) O (loc' := [(3, .int v2), (2, .int a4), (5, .int v2), (0, rf X.1 p0), (1, .int a1), (4, .int a4)]) dX1_bestSet_43 rfl (by decide) rfl ?_
        exact s_sub (pc := 44) O [3, 4, 1, 0, 5] rfl (g_X1_bestSet_44 O hi hn h hK)
set_option maxHeartbeats 4000000 in
set_option maxRecDepth 100000 in
theorem l_X1_bestSet_7 {X : CT} {lim : Nat} {M : MM} {p0 : Nat} {a1 : Int32} {a2 : Int32} {a3 : Int32} {a4 : Int32} (O : OKX X cX1_bestSet RX1 1 lim 6) (hi : True) (hn : M.1 ≤ lim) {o : Int32} {n : Nat} (h : lp (fun t => z_X1_bestSet_7 M p0 a1 t.1 t.2.1 t.2.2) n (a2, a3, a4) = some o) (hK : (fun (q : Int32) => RTX X (some .int) (some (.int q)) M) o) : WS X M 7 [(0, rf X.1 p0), (1, .int a1), (2, .int a2), (3, .int a3), (4, .int a4)] [] := by
  refine lp_ind (P := fun (o : Int32) (t : Int32 × Int32 × Int32) => (fun (q : Int32) => RTX X (some .int) (some (.int q)) M) o → WS X M 7 [(0, rf X.1 p0), (1, .int a1), (2, .int t.1), (3, .int t.2.1), (4, .int t.2.2)] []) (fun t o hs  hK => ?_) n (a2, a3, a4) o h  hK
  rcases hs with h | ⟨u, h, hu⟩
  · exact b_X1_bestSet_7 O hi hn h hK
  · exact b_X1_bestSet_7 O hi hn h (show KI _ _ (.inr u) from hu hK)
def f_X1_bestSet (M : MM) (p0 : Nat) (a1 : Int32) : Option (Int32) :=
  if p0 < M.1 ∧ kd p0 = 1 then (lp (fun t => z_X1_bestSet_7 M p0 a1 t.1 t.2.1 t.2.2) FU (0, (-1), 0)) else none
theorem r_X1_bestSet {M : MM} {p0 : Nat} {a1 : Int32} {o : Int32} (h : f_X1_bestSet M p0 a1 = some o) : p0 < M.1 ∧ kd p0 = 1 := by
  unfold f_X1_bestSet at h
  exact (gd h).1
theorem cy_X1_bestSet : CallY yX1_bestSet cX1_bestSet 6 (some .int) 1 := ⟨by decide +kernel, tw_556, tw_42, by decide⟩
set_option maxHeartbeats 4000000 in
set_option maxRecDepth 100000 in
theorem c_X1_bestSet {G : GG} {M : MM} {p0 : Nat} {a1 : Int32} {r : Int32} (h : f_X1_bestSet M p0 a1 = some r) : Ct G yX1_bestSet cX1_bestSet 6 (some .int) 1 [rf G p0, .int a1] M (some (.int r)) M := by
  refine ct_of (by decide +kernel) (Nat.le_of_ble_eq_true rfl) (fun X hX O hK hi0 => ?_)
  subst hX
  obtain ⟨lim, hlim⟩ : ∃ z, z = M.1 := ⟨_, rfl⟩
  rw [← hlim] at O
  replace O : OKX X cX1_bestSet RX1 1 lim 6 := O
  have hi : True := trivial
  have hn : M.1 ≤ lim := Nat.le_of_eq hlim.symm
  show WS X M 0 [(0, rf X.1 p0), (1, .int a1)] []
  unfold f_X1_bestSet at h
  obtain ⟨hg0, h⟩ := gd h
  refine s_iconst (pc := 0) O (v := 0) dX1_bestSet_0 (by decide) ?_
  refine s_istore_n (pc := 1) O (loc' := [(2, .int 0), (0, rf X.1 p0), (1, .int a1)]) dX1_bestSet_1 rfl (by decide) rfl ?_
  refine s_iconst (pc := 2) O (v := (-1)) dX1_bestSet_2 (by decide) ?_
  refine s_istore_n (pc := 3) O (loc' := [(3, .int (-1)), (2, .int 0), (0, rf X.1 p0), (1, .int a1)]) dX1_bestSet_3 rfl (by decide) rfl ?_
  refine s_iconst (pc := 4) O (v := 0) dX1_bestSet_4 (by decide) ?_
  refine s_istore (pc := 5) O (loc' := [(4, .int 0), (3, .int (-1)), (2, .int 0), (0, rf X.1 p0), (1, .int a1)]) dX1_bestSet_5 (by decide) rfl ?_
  exact s_sub (pc := 7) O [3, 4, 2, 1, 0] rfl (l_X1_bestSet_7 O hi hn h hK)

def j_X1_countAsked_37 (M : MM) (p0 : Nat) (a1 : Int32) (a2 : Int32) (a3 : Int32) (a4 : Int32) : Option ((Int32) ⊕ (Int32 × Int32)) :=
  some ((.inr (a3, (a4 + 1))))
set_option maxHeartbeats 4000000 in
set_option maxRecDepth 100000 in
theorem g_X1_countAsked_37 {X : CT} {lim : Nat} {M : MM} {p0 : Nat} {a1 : Int32} {a2 : Int32} {a3 : Int32} {a4 : Int32} (O : OKX X cX1_countAsked RX1 1 lim 5) (hi : True) (hn : M.1 ≤ lim) {o : (Int32) ⊕ (Int32 × Int32)} (h : j_X1_countAsked_37 M p0 a1 a2 a3 a4 = some o) (hK : (KI (fun (q : Int32) => RTX X (some .int) (some (.int q)) M) (fun (t : Int32 × Int32) => WS X M 5 [(0, rf X.1 p0), (1, .int a1), (2, .int a2), (3, .int t.1), (4, .int t.2)] [])) o) : WS X M 37 [(0, rf X.1 p0), (1, .int a1), (2, .int a2), (3, .int a3), (4, .int a4)] [] := by
  unfold j_X1_countAsked_37 at h
  refine s_iinc (pc := 37) O (v := (a4 + 1)) (loc' := [(4, .int (a4 + 1)), (0, rf X.1 p0), (1, .int a1), (2, .int a2), (3, .int a3)]) dX1_countAsked_37 4 rfl rfl (by decide) rfl ?_
  refine s_goto (pc := 40) O (tgt := 5) dX1_countAsked_40 (by decide) ?_
  cases h
  exact s_sub (pc := 5) O [1, 2, 3, 4, 0] rfl hK
def z_X1_countAsked_5 (M : MM) (p0 : Nat) (a1 : Int32) (a2 : Int32) (a3 : Int32) (a4 : Int32) : Option ((Int32) ⊕ (Int32 × Int32)) :=
  if (1000 : Int32) ≤ a4 then (some ((.inl a3))) else ((f_X1_isAnswer M p0 a1 a4).bind fun v1 => if v1 = 0 then (j_X1_countAsked_37 M p0 a1 a2 a3 a4) else ((fR M p0 1 1).bind fun v2 => (aI M v2 a4).bind fun v3 => if v3 = a2 then (j_X1_countAsked_37 M p0 a1 a2 ((a3 + 1)) a4) else (j_X1_countAsked_37 M p0 a1 a2 a3 a4)))
set_option maxHeartbeats 4000000 in
set_option maxRecDepth 100000 in
theorem b_X1_countAsked_5 {X : CT} {lim : Nat} {M : MM} {p0 : Nat} {a1 : Int32} {a2 : Int32} {a3 : Int32} {a4 : Int32} (O : OKX X cX1_countAsked RX1 1 lim 5) (hi : True) (hn : M.1 ≤ lim) {o : (Int32) ⊕ (Int32 × Int32)} (h : z_X1_countAsked_5 M p0 a1 a2 a3 a4 = some o) (hK : (KI (fun (q : Int32) => RTX X (some .int) (some (.int q)) M) (fun (t : Int32 × Int32) => WS X M 5 [(0, rf X.1 p0), (1, .int a1), (2, .int a2), (3, .int t.1), (4, .int t.2)] [])) o) : WS X M 5 [(0, rf X.1 p0), (1, .int a1), (2, .int a2), (3, .int a3), (4, .int a4)] [] := by
  unfold z_X1_countAsked_5 at h
  refine s_iload (pc := 5) O dX1_countAsked_5 4 rfl ?_
  refine s_sipush (pc := 7) O (v := 1000) dX1_countAsked_7 (by decide) ?_
  refine s_icmp_ge (pc := 10) O (tgt := 43) dX1_countAsked_10 (by decide) (fun c => ?_) (fun c => ?_)
  · have h := ifp c h
    refine s_iload_n (pc := 43) O dX1_countAsked_43 rfl 3 rfl ?_
    cases h
    exact s_iret (pc := 44) O hK dX1_countAsked_44
  · have h := ifn c h
    refine s_aload_n (pc := 13) O dX1_countAsked_13 rfl 0 rfl ?_
    refine s_iload_n (pc := 14) O dX1_countAsked_14 rfl 1 rfl ?_
    refine s_iload (pc := 15) O dX1_countAsked_15 4 rfl ?_
    obtain ⟨v1, e, h⟩ := bd h
    refine s_callVi (pc := 17) O (As := [.int a1, .int a4]) kc1 (c_X1_isAnswer (G := X.1) e) cy_X1_isAnswer tw_577 tw_448 tw_449 (by decide) rfl (Nat.le_refl _) hn (r_X1_isAnswer e).1 (r_X1_isAnswer e).2 rfl (Nat.le_of_ble_eq_true rfl) dX1_countAsked_17 ?_
    refine s_if_eq (pc := 20) O (tgt := 37) dX1_countAsked_20 (by decide) (fun c => ?_) (fun c => ?_)
    · have h := ifp c h
      exact s_sub (pc := 37) O [0, 1, 2, 3, 4] rfl (g_X1_countAsked_37 O hi hn h hK)
    · have h := ifn c h
      refine s_aload_n (pc := 23) O dX1_countAsked_23 rfl 0 rfl ?_
      obtain ⟨v2, e, h⟩ := bd h
      refine s_getR (pc := 24) O kc1 (k := 1) rfl tw_102 e dX1_countAsked_24 ?_
      refine s_iload (pc := 27) O dX1_countAsked_27 4 rfl ?_
      obtain ⟨v3, e, h⟩ := bd h
      refine s_aldI (pc := 29) O e dX1_countAsked_29 ?_
      refine s_iload_n (pc := 30) O dX1_countAsked_30 rfl 2 rfl ?_
      refine s_icmp_ne (pc := 31) O (tgt := 37) dX1_countAsked_31 (by decide) (fun c => ?_) (fun c => ?_)
      · have h := ifn c h
        exact s_sub (pc := 37) O [0, 1, 2, 3, 4] rfl (g_X1_countAsked_37 O hi hn h hK)
      · have h := ifp c h
        refine s_iinc (pc := 34) O (v := (a3 + 1)) (loc' := [(3, .int (a3 + 1)), (0, rf X.1 p0), (1, .int a1), (2, .int a2), (4, .int a4)]) dX1_countAsked_34 3 rfl rfl (by decide) rfl ?_
        exact s_sub (pc := 37) O [1, 2, 3, 0, 4] rfl (g_X1_countAsked_37 O hi hn h hK)
set_option maxHeartbeats 4000000 in
set_option maxRecDepth 100000 in
theorem l_X1_countAsked_5 {X : CT} {lim : Nat} {M : MM} {p0 : Nat} {a1 : Int32} {a2 : Int32} {a3 : Int32} {a4 : Int32} (O : OKX X cX1_countAsked RX1 1 lim 5) (hi : True) (hn : M.1 ≤ lim) {o : Int32} {n : Nat} (h : lp (fun t => z_X1_countAsked_5 M p0 a1 a2 t.1 t.2) n (a3, a4) = some o) (hK : (fun (q : Int32) => RTX X (some .int) (some (.int q)) M) o) : WS X M 5 [(0, rf X.1 p0), (1, .int a1), (2, .int a2), (3, .int a3), (4, .int a4)] [] := by
  refine lp_ind (P := fun (o : Int32) (t : Int32 × Int32) => (fun (q : Int32) => RTX X (some .int) (some (.int q)) M) o → WS X M 5 [(0, rf X.1 p0), (1, .int a1), (2, .int a2), (3, .int t.1), (4, .int t.2)] []) (fun t o hs  hK => ?_) n (a3, a4) o h  hK
  rcases hs with h | ⟨u, h, hu⟩
  · exact b_X1_countAsked_5 O hi hn h hK
  · exact b_X1_countAsked_5 O hi hn h (show KI _ _ (.inr u) from hu hK)
def f_X1_countAsked (M : MM) (p0 : Nat) (a1 : Int32) (a2 : Int32) : Option (Int32) :=
  if p0 < M.1 ∧ kd p0 = 1 then (lp (fun t => z_X1_countAsked_5 M p0 a1 a2 t.1 t.2) FU (0, 1)) else none
theorem r_X1_countAsked {M : MM} {p0 : Nat} {a1 : Int32} {a2 : Int32} {o : Int32} (h : f_X1_countAsked M p0 a1 a2 = some o) : p0 < M.1 ∧ kd p0 = 1 := by
  unfold f_X1_countAsked at h
  exact (gd h).1
theorem cy_X1_countAsked : CallY yX1_countAsked cX1_countAsked 5 (some .int) 2 := ⟨by decide +kernel, tw_576, tw_42, by decide⟩
set_option maxHeartbeats 4000000 in
set_option maxRecDepth 100000 in
theorem c_X1_countAsked {G : GG} {M : MM} {p0 : Nat} {a1 : Int32} {a2 : Int32} {r : Int32} (h : f_X1_countAsked M p0 a1 a2 = some r) : Ct G yX1_countAsked cX1_countAsked 5 (some .int) 1 [rf G p0, .int a1, .int a2] M (some (.int r)) M := by
  refine ct_of (by decide +kernel) (Nat.le_of_ble_eq_true rfl) (fun X hX O hK hi0 => ?_)
  subst hX
  obtain ⟨lim, hlim⟩ : ∃ z, z = M.1 := ⟨_, rfl⟩
  rw [← hlim] at O
  replace O : OKX X cX1_countAsked RX1 1 lim 5 := O
  have hi : True := trivial
  have hn : M.1 ≤ lim := Nat.le_of_eq hlim.symm
  show WS X M 0 [(0, rf X.1 p0), (1, .int a1), (2, .int a2)] []
  unfold f_X1_countAsked at h
  obtain ⟨hg0, h⟩ := gd h
  refine s_iconst (pc := 0) O (v := 0) dX1_countAsked_0 (by decide) ?_
  refine s_istore_n (pc := 1) O (loc' := [(3, .int 0), (0, rf X.1 p0), (1, .int a1), (2, .int a2)]) dX1_countAsked_1 rfl (by decide) rfl ?_
  refine s_iconst (pc := 2) O (v := 1) dX1_countAsked_2 (by decide) ?_
  refine s_istore (pc := 3) O (loc' := [(4, .int 1), (3, .int 0), (0, rf X.1 p0), (1, .int a1), (2, .int a2)]) dX1_countAsked_3 (by decide) rfl ?_
  exact s_sub (pc := 5) O [2, 3, 4, 1, 0] rfl (l_X1_countAsked_5 O hi hn h hK)

def z_X1_difference_5 (M : MM) (p0 : Nat) (a1 : Int32) (a2 : Int32) (a3 : Int32) (a4 : Int32) : Option ((Int32) ⊕ (Int32 × Int32)) :=
  if (8 : Int32) ≤ a4 then (some ((.inl a3))) else ((f_X1_countOf M p0 a1 a4).bind fun v1 => (f_X1_countOf M p0 a2 a4).bind fun v2 => some ((.inr ((a3 + (if 0 ≤ (v1 - v2) then (v1 - v2) else 0 - (v1 - v2))), (a4 + 1)))))
set_option maxHeartbeats 4000000 in
set_option maxRecDepth 100000 in
theorem b_X1_difference_5 {X : CT} {lim : Nat} {M : MM} {p0 : Nat} {a1 : Int32} {a2 : Int32} {a3 : Int32} {a4 : Int32} (O : OKX X cX1_difference RX1 1 lim 5) (hi : True) (hn : M.1 ≤ lim) {o : (Int32) ⊕ (Int32 × Int32)} (h : z_X1_difference_5 M p0 a1 a2 a3 a4 = some o) (hK : (KI (fun (q : Int32) => RTX X (some .int) (some (.int q)) M) (fun (t : Int32 × Int32) => WS X M 5 [(0, rf X.1 p0), (1, .int a1), (2, .int a2), (3, .int t.1), (4, .int t.2)] [])) o) : WS X M 5 [(0, rf X.1 p0), (1, .int a1), (2, .int a2), (3, .int a3), (4, .int a4)] [] := by
  unfold z_X1_difference_5 at h
  refine s_iload (pc := 5) O dX1_difference_5 4 rfl ?_
  refine s_bipush (pc := 7) O (v := 8) dX1_difference_7 (by decide) ?_
  refine s_icmp_ge (pc := 9) O (tgt := 39) dX1_difference_9 (by decide) (fun c => ?_) (fun c => ?_)
  · have h := ifp c h
    refine s_iload_n (pc := 39) O dX1_difference_39 rfl 3 rfl ?_
    cases h
    exact s_iret (pc := 40) O hK dX1_difference_40
  · have h := ifn c h
    refine s_iload_n (pc := 12) O dX1_difference_12 rfl 3 rfl ?_
    refine s_aload_n (pc := 13) O dX1_difference_13 rfl 0 rfl ?_
    refine s_iload_n (pc := 14) O dX1_difference_14 rfl 1 rfl ?_
    refine s_iload (pc := 15) O dX1_difference_15 4 rfl ?_
    obtain ⟨v1, e, h⟩ := bd h
    refine s_callVi (pc := 17) O (As := [.int a1, .int a4]) kc1 (c_X1_countOf (G := X.1) e) cy_X1_countOf tw_497 tw_440 tw_441 (by decide) rfl (Nat.le_refl _) hn (r_X1_countOf e).1 (r_X1_countOf e).2 rfl (Nat.le_of_ble_eq_true rfl) dX1_difference_17 ?_
    refine s_aload_n (pc := 20) O dX1_difference_20 rfl 0 rfl ?_
    refine s_iload_n (pc := 21) O dX1_difference_21 rfl 2 rfl ?_
    refine s_iload (pc := 22) O dX1_difference_22 4 rfl ?_
    obtain ⟨v2, e, h⟩ := bd h
    refine s_callVi (pc := 24) O (As := [.int a2, .int a4]) kc1 (c_X1_countOf (G := X.1) e) cy_X1_countOf tw_497 tw_440 tw_441 (by decide) rfl (Nat.le_refl _) hn (r_X1_countOf e).1 (r_X1_countOf e).2 rfl (Nat.le_of_ble_eq_true rfl) dX1_difference_24 ?_
    refine s_isub (pc := 27) O dX1_difference_27 ?_
    refine s_mabs (pc := 28) O tw_498 hn (by decide) (Nat.le_of_ble_eq_true rfl) dX1_difference_28 ?_
    refine s_iadd (pc := 31) O dX1_difference_31 ?_
    refine s_istore_n (pc := 32) O (loc' := [(3, .int (a3 + (if 0 ≤ (v1 - v2) then (v1 - v2) else 0 - (v1 - v2)))), (0, rf X.1 p0), (1, .int a1), (2, .int a2), (4, .int a4)]) dX1_difference_32 rfl (by decide) rfl ?_
    refine s_iinc (pc := 33) O (v := (a4 + 1)) (loc' := [(4, .int (a4 + 1)), (3, .int (a3 + (if 0 ≤ (v1 - v2) then (v1 - v2) else 0 - (v1 - v2)))), (0, rf X.1 p0), (1, .int a1), (2, .int a2)]) dX1_difference_33 4 rfl rfl (by decide) rfl ?_
    refine s_goto (pc := 36) O (tgt := 5) dX1_difference_36 (by decide) ?_
    cases h
    exact s_sub (pc := 5) O [2, 3, 4, 1, 0] rfl hK
set_option maxHeartbeats 4000000 in
set_option maxRecDepth 100000 in
theorem l_X1_difference_5 {X : CT} {lim : Nat} {M : MM} {p0 : Nat} {a1 : Int32} {a2 : Int32} {a3 : Int32} {a4 : Int32} (O : OKX X cX1_difference RX1 1 lim 5) (hi : True) (hn : M.1 ≤ lim) {o : Int32} {n : Nat} (h : lp (fun t => z_X1_difference_5 M p0 a1 a2 t.1 t.2) n (a3, a4) = some o) (hK : (fun (q : Int32) => RTX X (some .int) (some (.int q)) M) o) : WS X M 5 [(0, rf X.1 p0), (1, .int a1), (2, .int a2), (3, .int a3), (4, .int a4)] [] := by
  refine lp_ind (P := fun (o : Int32) (t : Int32 × Int32) => (fun (q : Int32) => RTX X (some .int) (some (.int q)) M) o → WS X M 5 [(0, rf X.1 p0), (1, .int a1), (2, .int a2), (3, .int t.1), (4, .int t.2)] []) (fun t o hs  hK => ?_) n (a3, a4) o h  hK
  rcases hs with h | ⟨u, h, hu⟩
  · exact b_X1_difference_5 O hi hn h hK
  · exact b_X1_difference_5 O hi hn h (show KI _ _ (.inr u) from hu hK)
def f_X1_difference (M : MM) (p0 : Nat) (a1 : Int32) (a2 : Int32) : Option (Int32) :=
  if p0 < M.1 ∧ kd p0 = 1 then (lp (fun t => z_X1_difference_5 M p0 a1 a2 t.1 t.2) FU (0, 0)) else none
theorem r_X1_difference {M : MM} {p0 : Nat} {a1 : Int32} {a2 : Int32} {o : Int32} (h : f_X1_difference M p0 a1 a2 = some o) : p0 < M.1 ∧ kd p0 = 1 := by
  unfold f_X1_difference at h
  exact (gd h).1
theorem cy_X1_difference : CallY yX1_difference cX1_difference 5 (some .int) 2 := ⟨by decide +kernel, tw_496, tw_42, by decide⟩
set_option maxHeartbeats 4000000 in
set_option maxRecDepth 100000 in
theorem c_X1_difference {G : GG} {M : MM} {p0 : Nat} {a1 : Int32} {a2 : Int32} {r : Int32} (h : f_X1_difference M p0 a1 a2 = some r) : Ct G yX1_difference cX1_difference 5 (some .int) 1 [rf G p0, .int a1, .int a2] M (some (.int r)) M := by
  refine ct_of (by decide +kernel) (Nat.le_of_ble_eq_true rfl) (fun X hX O hK hi0 => ?_)
  subst hX
  obtain ⟨lim, hlim⟩ : ∃ z, z = M.1 := ⟨_, rfl⟩
  rw [← hlim] at O
  replace O : OKX X cX1_difference RX1 1 lim 5 := O
  have hi : True := trivial
  have hn : M.1 ≤ lim := Nat.le_of_eq hlim.symm
  show WS X M 0 [(0, rf X.1 p0), (1, .int a1), (2, .int a2)] []
  unfold f_X1_difference at h
  obtain ⟨hg0, h⟩ := gd h
  refine s_iconst (pc := 0) O (v := 0) dX1_difference_0 (by decide) ?_
  refine s_istore_n (pc := 1) O (loc' := [(3, .int 0), (0, rf X.1 p0), (1, .int a1), (2, .int a2)]) dX1_difference_1 rfl (by decide) rfl ?_
  refine s_iconst (pc := 2) O (v := 0) dX1_difference_2 (by decide) ?_
  refine s_istore (pc := 3) O (loc' := [(4, .int 0), (3, .int 0), (0, rf X.1 p0), (1, .int a1), (2, .int a2)]) dX1_difference_3 (by decide) rfl ?_
  exact s_sub (pc := 5) O [2, 3, 4, 1, 0] rfl (l_X1_difference_5 O hi hn h hK)

def f_X1_init (lim : Nat) (M : MM) (p0 : Nat) : Option (MM) :=
  if p0 < M.1 ∧ kd p0 = 1 then ((nArr M lim 10 1000).bind fun M1 => (wfR M1 p0 1 0 M.1).bind fun M2 => (nArr M2 lim 8 1000).bind fun M3 => (wfR M3 p0 1 1 M2.1).bind fun M4 => (nArr M4 lim 8 1000).bind fun M5 => (wfR M5 p0 1 2 M4.1).bind fun M6 => (nArr M6 lim 8 1000).bind fun M7 => (wfR M7 p0 1 3 M6.1).bind fun M8 => (nArr M8 lim 8 1000).bind fun M9 => (wfR M9 p0 1 4 M8.1).bind fun M10 => (nArr M10 lim 9 1000).bind fun M11 => (wfR M11 p0 1 5 M10.1).bind fun M12 => (nArr M12 lim 8 1000).bind fun M13 => (wfR M13 p0 1 6 M12.1).bind fun M14 => (nArr M14 lim 8 1000).bind fun M15 => (wfR M15 p0 1 7 M14.1).bind fun M16 => (nArr M16 lim 8 256).bind fun M17 => (wfR M17 p0 1 8 M16.1).bind fun M18 => (nArr M18 lim 8 1000).bind fun M19 => (wfR M19 p0 1 10 M18.1).bind fun M20 => (nArr M20 lim 8 1000).bind fun M21 => (wfR M21 p0 1 11 M20.1).bind fun M22 => (nArr M22 lim 8 1000).bind fun M23 => (wfR M23 p0 1 12 M22.1).bind fun M24 => some M24) else none
theorem r_X1_init {lim : Nat} {M : MM} {p0 : Nat} {o : MM} (h : f_X1_init lim M p0 = some o) : p0 < M.1 ∧ kd p0 = 1 := by
  unfold f_X1_init at h
  exact (gd h).1
theorem cy_X1_init : CallY yX1_init cX1_init 1 (none) 0 := ⟨by decide +kernel, tw_99, tw_42, by decide⟩
set_option maxHeartbeats 4000000 in
set_option maxRecDepth 100000 in
theorem c_X1_init {G : GG} {M : MM} {p0 : Nat} {M' : MM} (h : f_X1_init M'.1 M p0 = some M') (hn : M.1 ≤ M'.1) : Ct G yX1_init cX1_init 1 (none) 1 [rf G p0] M (none) M' := by
  refine ct_of (by decide +kernel) (Nat.le_of_ble_eq_true rfl) (fun X hX O hK hi0 => ?_)
  subst hX
  obtain ⟨lim, hlim⟩ : ∃ z, z = M'.1 := ⟨_, rfl⟩
  rw [← hlim] at O hn h
  replace O : OKX X cX1_init RX1 1 lim 1 := O
  have hi : isInit X := hi0 rfl
  show WS X M 0 [(0, rf X.1 p0)] []
  unfold f_X1_init at h
  obtain ⟨hg0, h⟩ := gd h
  refine s_aload_n (pc := 0) O dX1_init_0 rfl 0 rfl ?_
  refine s_objInit (pc := 1) O tw_100 tw_60 tw_61 (by decide) (Nat.le_of_ble_eq_true rfl) dX1_init_1 ?_
  refine s_aload_n (pc := 4) O dX1_init_4 rfl 0 rfl ?_
  refine s_sipush (pc := 5) O (v := 1000) dX1_init_5 (by decide) ?_
  obtain ⟨M1, e, h⟩ := bd h
  refine s_newaZ (pc := 8) O tw_149 (ln_small _) e dX1_init_8 ?_
  have hn : M1.1 ≤ lim := nArr_n e
  obtain ⟨M2, e, h⟩ := bd h
  refine s_putRF (pc := 10) O kc1 (k := 0) rfl (Or.inr ⟨_, rfl⟩) rfl hi rfl tw_101 e dX1_init_10 ?_
  have hn : M2.1 ≤ lim := by rw [wfR_n e]; exact hn
  refine s_aload_n (pc := 13) O dX1_init_13 rfl 0 rfl ?_
  refine s_sipush (pc := 14) O (v := 1000) dX1_init_14 (by decide) ?_
  obtain ⟨M3, e, h⟩ := bd h
  refine s_newaI (pc := 17) O tw_94 (ln_small _) e dX1_init_17 ?_
  have hn : M3.1 ≤ lim := nArr_n e
  obtain ⟨M4, e, h⟩ := bd h
  refine s_putRF (pc := 19) O kc1 (k := 1) rfl (Or.inr ⟨_, rfl⟩) rfl hi rfl tw_102 e dX1_init_19 ?_
  have hn : M4.1 ≤ lim := by rw [wfR_n e]; exact hn
  refine s_aload_n (pc := 22) O dX1_init_22 rfl 0 rfl ?_
  refine s_sipush (pc := 23) O (v := 1000) dX1_init_23 (by decide) ?_
  obtain ⟨M5, e, h⟩ := bd h
  refine s_newaI (pc := 26) O tw_94 (ln_small _) e dX1_init_26 ?_
  have hn : M5.1 ≤ lim := nArr_n e
  obtain ⟨M6, e, h⟩ := bd h
  refine s_putRF (pc := 28) O kc1 (k := 2) rfl (Or.inr ⟨_, rfl⟩) rfl hi rfl tw_103 e dX1_init_28 ?_
  have hn : M6.1 ≤ lim := by rw [wfR_n e]; exact hn
  refine s_aload_n (pc := 31) O dX1_init_31 rfl 0 rfl ?_
  refine s_sipush (pc := 32) O (v := 1000) dX1_init_32 (by decide) ?_
  obtain ⟨M7, e, h⟩ := bd h
  refine s_newaI (pc := 35) O tw_94 (ln_small _) e dX1_init_35 ?_
  have hn : M7.1 ≤ lim := nArr_n e
  obtain ⟨M8, e, h⟩ := bd h
  refine s_putRF (pc := 37) O kc1 (k := 3) rfl (Or.inr ⟨_, rfl⟩) rfl hi rfl tw_105 e dX1_init_37 ?_
  have hn : M8.1 ≤ lim := by rw [wfR_n e]; exact hn
  refine s_aload_n (pc := 40) O dX1_init_40 rfl 0 rfl ?_
  refine s_sipush (pc := 41) O (v := 1000) dX1_init_41 (by decide) ?_
  obtain ⟨M9, e, h⟩ := bd h
  refine s_newaI (pc := 44) O tw_94 (ln_small _) e dX1_init_44 ?_
  have hn : M9.1 ≤ lim := nArr_n e
  obtain ⟨M10, e, h⟩ := bd h
  refine s_putRF (pc := 46) O kc1 (k := 4) rfl (Or.inr ⟨_, rfl⟩) rfl hi rfl tw_107 e dX1_init_46 ?_
  have hn : M10.1 ≤ lim := by rw [wfR_n e]; exact hn
  refine s_aload_n (pc := 49) O dX1_init_49 rfl 0 rfl ?_
  refine s_sipush (pc := 50) O (v := 1000) dX1_init_50 (by decide) ?_
  obtain ⟨M11, e, h⟩ := bd h
  refine s_newaJ (pc := 53) O tw_150 (ln_small _) e dX1_init_53 ?_
  have hn : M11.1 ≤ lim := nArr_n e
  obtain ⟨M12, e, h⟩ := bd h
  refine s_putRF (pc := 55) O kc1 (k := 5) rfl (Or.inr ⟨_, rfl⟩) rfl hi rfl tw_109 e dX1_init_55 ?_
  have hn : M12.1 ≤ lim := by rw [wfR_n e]; exact hn
  refine s_aload_n (pc := 58) O dX1_init_58 rfl 0 rfl ?_
  refine s_sipush (pc := 59) O (v := 1000) dX1_init_59 (by decide) ?_
  obtain ⟨M13, e, h⟩ := bd h
  refine s_newaI (pc := 62) O tw_94 (ln_small _) e dX1_init_62 ?_
  have hn : M13.1 ≤ lim := nArr_n e
  obtain ⟨M14, e, h⟩ := bd h
  refine s_putRF (pc := 64) O kc1 (k := 6) rfl (Or.inr ⟨_, rfl⟩) rfl hi rfl tw_110 e dX1_init_64 ?_
  have hn : M14.1 ≤ lim := by rw [wfR_n e]; exact hn
  refine s_aload_n (pc := 67) O dX1_init_67 rfl 0 rfl ?_
  refine s_sipush (pc := 68) O (v := 1000) dX1_init_68 (by decide) ?_
  obtain ⟨M15, e, h⟩ := bd h
  refine s_newaI (pc := 71) O tw_94 (ln_small _) e dX1_init_71 ?_
  have hn : M15.1 ≤ lim := nArr_n e
  obtain ⟨M16, e, h⟩ := bd h
  refine s_putRF (pc := 73) O kc1 (k := 7) rfl (Or.inr ⟨_, rfl⟩) rfl hi rfl tw_111 e dX1_init_73 ?_
  have hn : M16.1 ≤ lim := by rw [wfR_n e]; exact hn
  refine s_aload_n (pc := 76) O dX1_init_76 rfl 0 rfl ?_
  refine s_sipush (pc := 77) O (v := 256) dX1_init_77 (by decide) ?_
  obtain ⟨M17, e, h⟩ := bd h
  refine s_newaI (pc := 80) O tw_94 (ln_small _) e dX1_init_80 ?_
  have hn : M17.1 ≤ lim := nArr_n e
  obtain ⟨M18, e, h⟩ := bd h
  refine s_putRF (pc := 82) O kc1 (k := 8) rfl (Or.inr ⟨_, rfl⟩) rfl hi rfl tw_113 e dX1_init_82 ?_
  have hn : M18.1 ≤ lim := by rw [wfR_n e]; exact hn
  refine s_aload_n (pc := 85) O dX1_init_85 rfl 0 rfl ?_
  refine s_sipush (pc := 86) O (v := 1000) dX1_init_86 (by decide) ?_
  obtain ⟨M19, e, h⟩ := bd h
  refine s_newaI (pc := 89) O tw_94 (ln_small _) e dX1_init_89 ?_
  have hn : M19.1 ≤ lim := nArr_n e
  obtain ⟨M20, e, h⟩ := bd h
  refine s_putRF (pc := 91) O kc1 (k := 10) rfl (Or.inr ⟨_, rfl⟩) rfl hi rfl tw_116 e dX1_init_91 ?_
  have hn : M20.1 ≤ lim := by rw [wfR_n e]; exact hn
  refine s_aload_n (pc := 94) O dX1_init_94 rfl 0 rfl ?_
  refine s_sipush (pc := 95) O (v := 1000) dX1_init_95 (by decide) ?_
  obtain ⟨M21, e, h⟩ := bd h
  refine s_newaI (pc := 98) O tw_94 (ln_small _) e dX1_init_98 ?_
  have hn : M21.1 ≤ lim := nArr_n e
  obtain ⟨M22, e, h⟩ := bd h
  refine s_putRF (pc := 100) O kc1 (k := 11) rfl (Or.inr ⟨_, rfl⟩) rfl hi rfl tw_117 e dX1_init_100 ?_
  have hn : M22.1 ≤ lim := by rw [wfR_n e]; exact hn
  refine s_aload_n (pc := 103) O dX1_init_103 rfl 0 rfl ?_
  refine s_sipush (pc := 104) O (v := 1000) dX1_init_104 (by decide) ?_
  obtain ⟨M23, e, h⟩ := bd h
  refine s_newaI (pc := 107) O tw_94 (ln_small _) e dX1_init_107 ?_
  have hn : M23.1 ≤ lim := nArr_n e
  obtain ⟨M24, e, h⟩ := bd h
  refine s_putRF (pc := 109) O kc1 (k := 12) rfl (Or.inr ⟨_, rfl⟩) rfl hi rfl tw_118 e dX1_init_109 ?_
  have hn : M24.1 ≤ lim := by rw [wfR_n e]; exact hn
  cases h
  exact s_vret (pc := 112) O hK dX1_init_112

def j_X1_mostOwn_32 (M : MM) (p0 : Nat) (a1 : Int32) (a2 : Int32) : Option ((Int32) ⊕ (Int32 × Int32)) :=
  some ((.inr (a1, (a2 + 1))))
set_option maxHeartbeats 4000000 in
set_option maxRecDepth 100000 in
theorem g_X1_mostOwn_32 {X : CT} {lim : Nat} {M : MM} {p0 : Nat} {a1 : Int32} {a2 : Int32} (O : OKX X cX1_mostOwn RX1 1 lim 3) (hi : True) (hn : M.1 ≤ lim) {o : (Int32) ⊕ (Int32 × Int32)} (h : j_X1_mostOwn_32 M p0 a1 a2 = some o) (hK : (KI (fun (q : Int32) => RTX X (some .int) (some (.int q)) M) (fun (t : Int32 × Int32) => WS X M 5 [(0, rf X.1 p0), (1, .int t.1), (2, .int t.2)] [])) o) : WS X M 32 [(0, rf X.1 p0), (1, .int a1), (2, .int a2)] [] := by
  unfold j_X1_mostOwn_32 at h
  refine s_iinc (pc := 32) O (v := (a2 + 1)) (loc' := [(2, .int (a2 + 1)), (0, rf X.1 p0), (1, .int a1)]) dX1_mostOwn_32 2 rfl rfl (by decide) rfl ?_
  refine s_goto (pc := 35) O (tgt := 5) dX1_mostOwn_35 (by decide) ?_
  cases h
  exact s_sub (pc := 5) O [1, 2, 0] rfl hK
def z_X1_mostOwn_5 (M : MM) (p0 : Nat) (a1 : Int32) (a2 : Int32) : Option ((Int32) ⊕ (Int32 × Int32)) :=
  if (1000 : Int32) ≤ a2 then (some ((.inl a1))) else ((fR M p0 1 0).bind fun v1 => (aZ M v1 a2).bind fun v2 => if v2 = 0 then (j_X1_mostOwn_32 M p0 a1 a2) else ((fR M p0 1 2).bind fun v3 => (aI M v3 a2).bind fun v4 => j_X1_mostOwn_32 M p0 ((if a1 < v4 then v4 else a1)) a2))
set_option maxHeartbeats 4000000 in
set_option maxRecDepth 100000 in
theorem b_X1_mostOwn_5 {X : CT} {lim : Nat} {M : MM} {p0 : Nat} {a1 : Int32} {a2 : Int32} (O : OKX X cX1_mostOwn RX1 1 lim 3) (hi : True) (hn : M.1 ≤ lim) {o : (Int32) ⊕ (Int32 × Int32)} (h : z_X1_mostOwn_5 M p0 a1 a2 = some o) (hK : (KI (fun (q : Int32) => RTX X (some .int) (some (.int q)) M) (fun (t : Int32 × Int32) => WS X M 5 [(0, rf X.1 p0), (1, .int t.1), (2, .int t.2)] [])) o) : WS X M 5 [(0, rf X.1 p0), (1, .int a1), (2, .int a2)] [] := by
  unfold z_X1_mostOwn_5 at h
  refine s_iload_n (pc := 5) O dX1_mostOwn_5 rfl 2 rfl ?_
  refine s_sipush (pc := 6) O (v := 1000) dX1_mostOwn_6 (by decide) ?_
  refine s_icmp_ge (pc := 9) O (tgt := 38) dX1_mostOwn_9 (by decide) (fun c => ?_) (fun c => ?_)
  · have h := ifp c h
    refine s_iload_n (pc := 38) O dX1_mostOwn_38 rfl 1 rfl ?_
    cases h
    exact s_iret (pc := 39) O hK dX1_mostOwn_39
  · have h := ifn c h
    refine s_aload_n (pc := 12) O dX1_mostOwn_12 rfl 0 rfl ?_
    obtain ⟨v1, e, h⟩ := bd h
    refine s_getR (pc := 13) O kc1 (k := 0) rfl tw_101 e dX1_mostOwn_13 ?_
    refine s_iload_n (pc := 16) O dX1_mostOwn_16 rfl 2 rfl ?_
    obtain ⟨v2, e, h⟩ := bd h
    refine s_aldZ (pc := 17) O e dX1_mostOwn_17 ?_
    refine s_if_eq (pc := 18) O (tgt := 32) dX1_mostOwn_18 (by decide) (fun c => ?_) (fun c => ?_)
    · have h := ifp c h
      exact s_sub (pc := 32) O [0, 1, 2] rfl (g_X1_mostOwn_32 O hi hn h hK)
    · have h := ifn c h
      refine s_iload_n (pc := 21) O dX1_mostOwn_21 rfl 1 rfl ?_
      refine s_aload_n (pc := 22) O dX1_mostOwn_22 rfl 0 rfl ?_
      obtain ⟨v3, e, h⟩ := bd h
      refine s_getR (pc := 23) O kc1 (k := 2) rfl tw_103 e dX1_mostOwn_23 ?_
      refine s_iload_n (pc := 26) O dX1_mostOwn_26 rfl 2 rfl ?_
      obtain ⟨v4, e, h⟩ := bd h
      refine s_aldI (pc := 27) O e dX1_mostOwn_27 ?_
      refine s_mmax (pc := 28) O tw_471 hn (by decide) (Nat.le_of_ble_eq_true rfl) dX1_mostOwn_28 ?_
      refine s_istore_n (pc := 31) O (loc' := [(1, .int (if a1 < v4 then v4 else a1)), (0, rf X.1 p0), (2, .int a2)]) dX1_mostOwn_31 rfl (by decide) rfl ?_
      exact s_sub (pc := 32) O [1, 0, 2] rfl (g_X1_mostOwn_32 O hi hn h hK)
set_option maxHeartbeats 4000000 in
set_option maxRecDepth 100000 in
theorem l_X1_mostOwn_5 {X : CT} {lim : Nat} {M : MM} {p0 : Nat} {a1 : Int32} {a2 : Int32} (O : OKX X cX1_mostOwn RX1 1 lim 3) (hi : True) (hn : M.1 ≤ lim) {o : Int32} {n : Nat} (h : lp (fun t => z_X1_mostOwn_5 M p0 t.1 t.2) n (a1, a2) = some o) (hK : (fun (q : Int32) => RTX X (some .int) (some (.int q)) M) o) : WS X M 5 [(0, rf X.1 p0), (1, .int a1), (2, .int a2)] [] := by
  refine lp_ind (P := fun (o : Int32) (t : Int32 × Int32) => (fun (q : Int32) => RTX X (some .int) (some (.int q)) M) o → WS X M 5 [(0, rf X.1 p0), (1, .int t.1), (2, .int t.2)] []) (fun t o hs  hK => ?_) n (a1, a2) o h  hK
  rcases hs with h | ⟨u, h, hu⟩
  · exact b_X1_mostOwn_5 O hi hn h hK
  · exact b_X1_mostOwn_5 O hi hn h (show KI _ _ (.inr u) from hu hK)
def f_X1_mostOwn (M : MM) (p0 : Nat) : Option (Int32) :=
  if p0 < M.1 ∧ kd p0 = 1 then (lp (fun t => z_X1_mostOwn_5 M p0 t.1 t.2) FU ((-9), 1)) else none
theorem r_X1_mostOwn {M : MM} {p0 : Nat} {o : Int32} (h : f_X1_mostOwn M p0 = some o) : p0 < M.1 ∧ kd p0 = 1 := by
  unfold f_X1_mostOwn at h
  exact (gd h).1
theorem cy_X1_mostOwn : CallY yX1_mostOwn cX1_mostOwn 3 (some .int) 0 := ⟨by decide +kernel, tw_470, tw_42, by decide⟩
set_option maxHeartbeats 4000000 in
set_option maxRecDepth 100000 in
theorem c_X1_mostOwn {G : GG} {M : MM} {p0 : Nat} {r : Int32} (h : f_X1_mostOwn M p0 = some r) : Ct G yX1_mostOwn cX1_mostOwn 3 (some .int) 1 [rf G p0] M (some (.int r)) M := by
  refine ct_of (by decide +kernel) (Nat.le_of_ble_eq_true rfl) (fun X hX O hK hi0 => ?_)
  subst hX
  obtain ⟨lim, hlim⟩ : ∃ z, z = M.1 := ⟨_, rfl⟩
  rw [← hlim] at O
  replace O : OKX X cX1_mostOwn RX1 1 lim 3 := O
  have hi : True := trivial
  have hn : M.1 ≤ lim := Nat.le_of_eq hlim.symm
  show WS X M 0 [(0, rf X.1 p0)] []
  unfold f_X1_mostOwn at h
  obtain ⟨hg0, h⟩ := gd h
  refine s_bipush (pc := 0) O (v := (-9)) dX1_mostOwn_0 (by decide) ?_
  refine s_istore_n (pc := 2) O (loc' := [(1, .int (-9)), (0, rf X.1 p0)]) dX1_mostOwn_2 rfl (by decide) rfl ?_
  refine s_iconst (pc := 3) O (v := 1) dX1_mostOwn_3 (by decide) ?_
  refine s_istore_n (pc := 4) O (loc' := [(2, .int 1), (1, .int (-9)), (0, rf X.1 p0)]) dX1_mostOwn_4 rfl (by decide) rfl ?_
  exact s_sub (pc := 5) O [2, 1, 0] rfl (l_X1_mostOwn_5 O hi hn h hK)

def f_X2_init (lim : Nat) (M : MM) (p0 : Nat) : Option (MM) :=
  if p0 < M.1 ∧ kd p0 = 2 then ((nArr M lim 8 3).bind fun M1 => (wfR M1 p0 2 0 M.1).bind fun M2 => some M2) else none
theorem r_X2_init {lim : Nat} {M : MM} {p0 : Nat} {o : MM} (h : f_X2_init lim M p0 = some o) : p0 < M.1 ∧ kd p0 = 2 := by
  unfold f_X2_init at h
  exact (gd h).1
theorem cy_X2_init : CallY yX2_init cX2_init 1 (none) 0 := ⟨by decide +kernel, tw_215, tw_46, by decide⟩
set_option maxHeartbeats 4000000 in
set_option maxRecDepth 100000 in
theorem c_X2_init {G : GG} {M : MM} {p0 : Nat} {M' : MM} (h : f_X2_init M'.1 M p0 = some M') (hn : M.1 ≤ M'.1) : Ct G yX2_init cX2_init 1 (none) 1 [rf G p0] M (none) M' := by
  refine ct_of (by decide +kernel) (Nat.le_of_ble_eq_true rfl) (fun X hX O hK hi0 => ?_)
  subst hX
  obtain ⟨lim, hlim⟩ : ∃ z, z = M'.1 := ⟨_, rfl⟩
  rw [← hlim] at O hn h
  replace O : OKX X cX2_init RX2 1 lim 1 := O
  have hi : isInit X := hi0 rfl
  show WS X M 0 [(0, rf X.1 p0)] []
  unfold f_X2_init at h
  obtain ⟨hg0, h⟩ := gd h
  refine s_aload_n (pc := 0) O dX2_init_0 rfl 0 rfl ?_
  refine s_objInit (pc := 1) O tw_216 tw_60 tw_61 (by decide) (Nat.le_of_ble_eq_true rfl) dX2_init_1 ?_
  refine s_aload_n (pc := 4) O dX2_init_4 rfl 0 rfl ?_
  refine s_iconst (pc := 5) O (v := 3) dX2_init_5 (by decide) ?_
  obtain ⟨M1, e, h⟩ := bd h
  refine s_newaI (pc := 6) O tw_94 (ln_small _) e dX2_init_6 ?_
  have hn : M1.1 ≤ lim := nArr_n e
  obtain ⟨M2, e, h⟩ := bd h
  refine s_putRF (pc := 8) O kc2 (k := 0) rfl (Or.inr ⟨_, rfl⟩) rfl hi rfl tw_217 e dX2_init_8 ?_
  have hn : M2.1 ≤ lim := by rw [wfR_n e]; exact hn
  cases h
  exact s_vret (pc := 11) O hK dX2_init_11

def z_X2_row_4 (M : MM) (p0 : Nat) (a1 : Int32) (a2 : Int32) : Option ((Int32) ⊕ (Int32 × Int32)) :=
  (fI M p0 2 1).bind fun v1 => if v1 ≤ a2 then (some ((.inl a1))) else ((fR M p0 2 0).bind fun v2 => (aI M v2 a2).bind fun v3 => (f_X2_lengthened M a1 v3).bind fun v4 => some ((.inr (v4, (a2 + 1)))))
set_option maxHeartbeats 4000000 in
set_option maxRecDepth 100000 in
theorem b_X2_row_4 {X : CT} {lim : Nat} {M : MM} {p0 : Nat} {a1 : Int32} {a2 : Int32} (O : OKX X cX2_row RX2 1 lim 3) (hi : True) (hn : M.1 ≤ lim) {o : (Int32) ⊕ (Int32 × Int32)} (h : z_X2_row_4 M p0 a1 a2 = some o) (hK : (KI (fun (q : Int32) => RTX X (some .int) (some (.int q)) M) (fun (t : Int32 × Int32) => WS X M 4 [(0, rf X.1 p0), (1, .int t.1), (2, .int t.2)] [])) o) : WS X M 4 [(0, rf X.1 p0), (1, .int a1), (2, .int a2)] [] := by
  unfold z_X2_row_4 at h
  refine s_iload_n (pc := 4) O dX2_row_4 rfl 2 rfl ?_
  refine s_aload_n (pc := 5) O dX2_row_5 rfl 0 rfl ?_
  obtain ⟨v1, e, h⟩ := bd h
  refine s_getI (pc := 6) O kc2 (k := 1) rfl tw_220 e dX2_row_6 ?_
  refine s_icmp_ge (pc := 9) O (tgt := 29) dX2_row_9 (by decide) (fun c => ?_) (fun c => ?_)
  · have h := ifp c h
    refine s_iload_n (pc := 29) O dX2_row_29 rfl 1 rfl ?_
    cases h
    exact s_iret (pc := 30) O hK dX2_row_30
  · have h := ifn c h
    refine s_iload_n (pc := 12) O dX2_row_12 rfl 1 rfl ?_
    refine s_aload_n (pc := 13) O dX2_row_13 rfl 0 rfl ?_
    obtain ⟨v2, e, h⟩ := bd h
    refine s_getR (pc := 14) O kc2 (k := 0) rfl tw_217 e dX2_row_14 ?_
    refine s_iload_n (pc := 17) O dX2_row_17 rfl 2 rfl ?_
    obtain ⟨v3, e, h⟩ := bd h
    refine s_aldI (pc := 18) O e dX2_row_18 ?_
    obtain ⟨v4, e, h⟩ := bd h
    refine s_callSi (pc := 19) O (As := [.int a1, .int v3]) (c_X2_lengthened (G := X.1) e) cy_X2_lengthened tw_401 tw_395 (by decide) rfl (Nat.le_refl _) hn rfl (Nat.le_of_ble_eq_true rfl) dX2_row_19 ?_
    refine s_istore_n (pc := 22) O (loc' := [(1, .int v4), (0, rf X.1 p0), (2, .int a2)]) dX2_row_22 rfl (by decide) rfl ?_
    refine s_iinc (pc := 23) O (v := (a2 + 1)) (loc' := [(2, .int (a2 + 1)), (1, .int v4), (0, rf X.1 p0)]) dX2_row_23 2 rfl rfl (by decide) rfl ?_
    refine s_goto (pc := 26) O (tgt := 4) dX2_row_26 (by decide) ?_
    cases h
    exact s_sub (pc := 4) O [2, 1, 0] rfl hK
set_option maxHeartbeats 4000000 in
set_option maxRecDepth 100000 in
theorem l_X2_row_4 {X : CT} {lim : Nat} {M : MM} {p0 : Nat} {a1 : Int32} {a2 : Int32} (O : OKX X cX2_row RX2 1 lim 3) (hi : True) (hn : M.1 ≤ lim) {o : Int32} {n : Nat} (h : lp (fun t => z_X2_row_4 M p0 t.1 t.2) n (a1, a2) = some o) (hK : (fun (q : Int32) => RTX X (some .int) (some (.int q)) M) o) : WS X M 4 [(0, rf X.1 p0), (1, .int a1), (2, .int a2)] [] := by
  refine lp_ind (P := fun (o : Int32) (t : Int32 × Int32) => (fun (q : Int32) => RTX X (some .int) (some (.int q)) M) o → WS X M 4 [(0, rf X.1 p0), (1, .int t.1), (2, .int t.2)] []) (fun t o hs  hK => ?_) n (a1, a2) o h  hK
  rcases hs with h | ⟨u, h, hu⟩
  · exact b_X2_row_4 O hi hn h hK
  · exact b_X2_row_4 O hi hn h (show KI _ _ (.inr u) from hu hK)
def f_X2_row (M : MM) (p0 : Nat) : Option (Int32) :=
  if p0 < M.1 ∧ kd p0 = 2 then (lp (fun t => z_X2_row_4 M p0 t.1 t.2) FU (0, 0)) else none
theorem r_X2_row {M : MM} {p0 : Nat} {o : Int32} (h : f_X2_row M p0 = some o) : p0 < M.1 ∧ kd p0 = 2 := by
  unfold f_X2_row at h
  exact (gd h).1
theorem cy_X2_row : CallY yX2_row cX2_row 3 (some .int) 0 := ⟨by decide +kernel, tw_400, tw_46, by decide⟩
set_option maxHeartbeats 4000000 in
set_option maxRecDepth 100000 in
theorem c_X2_row {G : GG} {M : MM} {p0 : Nat} {r : Int32} (h : f_X2_row M p0 = some r) : Ct G yX2_row cX2_row 3 (some .int) 1 [rf G p0] M (some (.int r)) M := by
  refine ct_of (by decide +kernel) (Nat.le_of_ble_eq_true rfl) (fun X hX O hK hi0 => ?_)
  subst hX
  obtain ⟨lim, hlim⟩ : ∃ z, z = M.1 := ⟨_, rfl⟩
  rw [← hlim] at O
  replace O : OKX X cX2_row RX2 1 lim 3 := O
  have hi : True := trivial
  have hn : M.1 ≤ lim := Nat.le_of_eq hlim.symm
  show WS X M 0 [(0, rf X.1 p0)] []
  unfold f_X2_row at h
  obtain ⟨hg0, h⟩ := gd h
  refine s_iconst (pc := 0) O (v := 0) dX2_row_0 (by decide) ?_
  refine s_istore_n (pc := 1) O (loc' := [(1, .int 0), (0, rf X.1 p0)]) dX2_row_1 rfl (by decide) rfl ?_
  refine s_iconst (pc := 2) O (v := 0) dX2_row_2 (by decide) ?_
  refine s_istore_n (pc := 3) O (loc' := [(2, .int 0), (1, .int 0), (0, rf X.1 p0)]) dX2_row_3 rfl (by decide) rfl ?_
  exact s_sub (pc := 4) O [2, 1, 0] rfl (l_X2_row_4 O hi hn h hK)

def f_X3_init (lim : Nat) (M : MM) (p0 : Nat) : Option (MM) :=
  if p0 < M.1 ∧ kd p0 = 3 then ((nArr M lim 8 200).bind fun M1 => (wfR M1 p0 3 0 M.1).bind fun M2 => some M2) else none
theorem r_X3_init {lim : Nat} {M : MM} {p0 : Nat} {o : MM} (h : f_X3_init lim M p0 = some o) : p0 < M.1 ∧ kd p0 = 3 := by
  unfold f_X3_init at h
  exact (gd h).1
theorem cy_X3_init : CallY yX3_init cX3_init 1 (none) 0 := ⟨by decide +kernel, tw_66, tw_41, by decide⟩
set_option maxHeartbeats 4000000 in
set_option maxRecDepth 100000 in
theorem c_X3_init {G : GG} {M : MM} {p0 : Nat} {M' : MM} (h : f_X3_init M'.1 M p0 = some M') (hn : M.1 ≤ M'.1) : Ct G yX3_init cX3_init 1 (none) 1 [rf G p0] M (none) M' := by
  refine ct_of (by decide +kernel) (Nat.le_of_ble_eq_true rfl) (fun X hX O hK hi0 => ?_)
  subst hX
  obtain ⟨lim, hlim⟩ : ∃ z, z = M'.1 := ⟨_, rfl⟩
  rw [← hlim] at O hn h
  replace O : OKX X cX3_init RX3 1 lim 1 := O
  have hi : isInit X := hi0 rfl
  show WS X M 0 [(0, rf X.1 p0)] []
  unfold f_X3_init at h
  obtain ⟨hg0, h⟩ := gd h
  refine s_aload_n (pc := 0) O dX3_init_0 rfl 0 rfl ?_
  refine s_objInit (pc := 1) O tw_67 tw_60 tw_61 (by decide) (Nat.le_of_ble_eq_true rfl) dX3_init_1 ?_
  refine s_aload_n (pc := 4) O dX3_init_4 rfl 0 rfl ?_
  refine s_sipush (pc := 5) O (v := 200) dX3_init_5 (by decide) ?_
  obtain ⟨M1, e, h⟩ := bd h
  refine s_newaI (pc := 8) O tw_94 (ln_small _) e dX3_init_8 ?_
  have hn : M1.1 ≤ lim := nArr_n e
  obtain ⟨M2, e, h⟩ := bd h
  refine s_putRF (pc := 10) O kc3 (k := 0) rfl (Or.inr ⟨_, rfl⟩) rfl hi rfl tw_68 e dX3_init_10 ?_
  have hn : M2.1 ≤ lim := by rw [wfR_n e]; exact hn
  cases h
  exact s_vret (pc := 13) O hK dX3_init_13

def j_X3_takeNumber_120 (M : MM) (s0 : Nat) : Option (MM) :=
  (wfI M s0 3 4 1).bind fun M1 => some M1
set_option maxHeartbeats 4000000 in
set_option maxRecDepth 100000 in
theorem g_X3_takeNumber_120 {X : CT} {lim : Nat} {M : MM} {s0 : Nat} (O : OKX X cX3_takeNumber RX3 1 lim 2) (hi : True) (hn : M.1 ≤ lim) {o : MM} (h : j_X3_takeNumber_120 M s0 = some o) (hK : (fun (q : MM) => RTX X none none q) o) : WS X M 120 [] [rf X.1 s0] := by
  unfold j_X3_takeNumber_120 at h
  refine s_iconst (pc := 120) O (v := 1) dX3_takeNumber_120 (by decide) ?_
  refine s_goto (pc := 121) O (tgt := 125) dX3_takeNumber_121 (by decide) ?_
  obtain ⟨M1, e, h⟩ := bd h
  refine s_putI (pc := 125) O kc3 (k := 4) rfl rfl rfl tw_78 e dX3_takeNumber_125 ?_
  have hn : M1.1 ≤ lim := by rw [wfI_n e]; exact hn
  cases h
  exact s_vret (pc := 128) O hK dX3_takeNumber_128
def j_X3_takeNumber_105 (M : MM) (p0 : Nat) (s0 : Int32) : Option (MM) :=
  if s0 = 0 then ((fI M p0 3 5).bind fun v1 => if v1 ≤ 99 then ((wfI M p0 3 4 3).bind fun M2 => some M2) else (j_X3_takeNumber_120 M p0)) else (j_X3_takeNumber_120 M p0)
set_option maxHeartbeats 4000000 in
set_option maxRecDepth 100000 in
theorem g_X3_takeNumber_105 {X : CT} {lim : Nat} {M : MM} {p0 : Nat} {s0 : Int32} (O : OKX X cX3_takeNumber RX3 1 lim 2) (hi : True) (hn : M.1 ≤ lim) {o : MM} (h : j_X3_takeNumber_105 M p0 s0 = some o) (hK : (fun (q : MM) => RTX X none none q) o) : WS X M 105 [(0, rf X.1 p0)] [.int s0] := by
  unfold j_X3_takeNumber_105 at h
  refine s_istore_n (pc := 105) O (loc' := [(1, .int s0), (0, rf X.1 p0)]) dX3_takeNumber_105 rfl (by decide) rfl ?_
  refine s_aload_n (pc := 106) O dX3_takeNumber_106 rfl 1 rfl ?_
  refine s_iload_n (pc := 107) O dX3_takeNumber_107 rfl 0 rfl ?_
  refine s_if_ne (pc := 108) O (tgt := 120) dX3_takeNumber_108 (by decide) (fun c => ?_) (fun c => ?_)
  · have h := ifn c h
    exact s_sub (pc := 120) O [] rfl (g_X3_takeNumber_120 O hi hn h hK)
  · have h := ifp c h
    refine s_aload_n (pc := 111) O dX3_takeNumber_111 rfl 1 rfl ?_
    obtain ⟨v1, e, h⟩ := bd h
    refine s_getI (pc := 112) O kc3 (k := 5) rfl tw_80 e dX3_takeNumber_112 ?_
    refine s_bipush (pc := 115) O (v := 99) dX3_takeNumber_115 (by decide) ?_
    refine s_icmp_le (pc := 117) O (tgt := 124) dX3_takeNumber_117 (by decide) (fun c => ?_) (fun c => ?_)
    · have h := ifp c h
      refine s_iconst (pc := 124) O (v := 3) dX3_takeNumber_124 (by decide) ?_
      obtain ⟨M2, e, h⟩ := bd h
      refine s_putI (pc := 125) O kc3 (k := 4) rfl rfl rfl tw_78 e dX3_takeNumber_125 ?_
      have hn : M2.1 ≤ lim := by rw [wfI_n e]; exact hn
      cases h
      exact s_vret (pc := 128) O hK dX3_takeNumber_128
    · have h := ifn c h
      exact s_sub (pc := 120) O [] rfl (g_X3_takeNumber_120 O hi hn h hK)
def j_X3_takeNumber_104 (M : MM) (p0 : Nat) : Option (MM) :=
  j_X3_takeNumber_105 M p0 0
set_option maxHeartbeats 4000000 in
set_option maxRecDepth 100000 in
theorem g_X3_takeNumber_104 {X : CT} {lim : Nat} {M : MM} {p0 : Nat} (O : OKX X cX3_takeNumber RX3 1 lim 2) (hi : True) (hn : M.1 ≤ lim) {o : MM} (h : j_X3_takeNumber_104 M p0 = some o) (hK : (fun (q : MM) => RTX X none none q) o) : WS X M 104 [(0, rf X.1 p0)] [] := by
  unfold j_X3_takeNumber_104 at h
  refine s_iconst (pc := 104) O (v := 0) dX3_takeNumber_104 (by decide) ?_
  exact s_sub (pc := 105) O [0] rfl (g_X3_takeNumber_105 O hi hn h hK)
def j_X3_takeNumber_73 (M : MM) (p0 : Nat) : Option (MM) :=
  (fR M p0 3 0).bind fun v1 => (fI M p0 3 2).bind fun v2 => (aI M v1 v2).bind fun v3 => if v3 = 48 then ((fI M p0 3 3).bind fun v4 => (fI M p0 3 2).bind fun v5 => if (v4 - v5) ≤ 1 then (j_X3_takeNumber_104 M p0) else (j_X3_takeNumber_105 M p0 1)) else (j_X3_takeNumber_104 M p0)
set_option maxHeartbeats 4000000 in
set_option maxRecDepth 100000 in
theorem g_X3_takeNumber_73 {X : CT} {lim : Nat} {M : MM} {p0 : Nat} (O : OKX X cX3_takeNumber RX3 1 lim 2) (hi : True) (hn : M.1 ≤ lim) {o : MM} (h : j_X3_takeNumber_73 M p0 = some o) (hK : (fun (q : MM) => RTX X none none q) o) : WS X M 73 [(0, rf X.1 p0)] [] := by
  unfold j_X3_takeNumber_73 at h
  refine s_aload_n (pc := 73) O dX3_takeNumber_73 rfl 0 rfl ?_
  obtain ⟨v1, e, h⟩ := bd h
  refine s_getR (pc := 74) O kc3 (k := 0) rfl tw_68 e dX3_takeNumber_74 ?_
  refine s_aload_n (pc := 77) O dX3_takeNumber_77 rfl 0 rfl ?_
  obtain ⟨v2, e, h⟩ := bd h
  refine s_getI (pc := 78) O kc3 (k := 2) rfl tw_72 e dX3_takeNumber_78 ?_
  obtain ⟨v3, e, h⟩ := bd h
  refine s_aldI (pc := 81) O e dX3_takeNumber_81 ?_
  refine s_bipush (pc := 82) O (v := 48) dX3_takeNumber_82 (by decide) ?_
  refine s_icmp_ne (pc := 84) O (tgt := 104) dX3_takeNumber_84 (by decide) (fun c => ?_) (fun c => ?_)
  · have h := ifn c h
    exact s_sub (pc := 104) O [0] rfl (g_X3_takeNumber_104 O hi hn h hK)
  · have h := ifp c h
    refine s_aload_n (pc := 87) O dX3_takeNumber_87 rfl 0 rfl ?_
    obtain ⟨v4, e, h⟩ := bd h
    refine s_getI (pc := 88) O kc3 (k := 3) rfl tw_75 e dX3_takeNumber_88 ?_
    refine s_aload_n (pc := 91) O dX3_takeNumber_91 rfl 0 rfl ?_
    obtain ⟨v5, e, h⟩ := bd h
    refine s_getI (pc := 92) O kc3 (k := 2) rfl tw_72 e dX3_takeNumber_92 ?_
    refine s_isub (pc := 95) O dX3_takeNumber_95 ?_
    refine s_iconst (pc := 96) O (v := 1) dX3_takeNumber_96 (by decide) ?_
    refine s_icmp_le (pc := 97) O (tgt := 104) dX3_takeNumber_97 (by decide) (fun c => ?_) (fun c => ?_)
    · have h := ifp c h
      exact s_sub (pc := 104) O [0] rfl (g_X3_takeNumber_104 O hi hn h hK)
    · have h := ifn c h
      refine s_iconst (pc := 100) O (v := 1) dX3_takeNumber_100 (by decide) ?_
      refine s_goto (pc := 101) O (tgt := 105) dX3_takeNumber_101 (by decide) ?_
      exact s_sub (pc := 105) O [0] rfl (g_X3_takeNumber_105 O hi hn h hK)
def z_X3_takeNumber_5 (M : MM) (p0 : Nat) : Option ((MM) ⊕ (MM)) :=
  (fI M p0 3 3).bind fun v1 => (fI M p0 3 1).bind fun v2 => if v2 ≤ v1 then ((j_X3_takeNumber_73 M p0).map .inl) else ((fI M p0 3 3).bind fun v3 => (f_X3_isIn M p0 v3 48 57).bind fun v4 => if v4 = 0 then ((j_X3_takeNumber_73 M p0).map .inl) else ((fI M p0 3 5).bind fun v5 => (fR M p0 3 0).bind fun v6 => (fI M p0 3 3).bind fun v7 => (aI M v6 v7).bind fun v8 => (wfI M p0 3 5 ((if 100 < (((v5 * 10) + v8) - 48) then 100 else (((v5 * 10) + v8) - 48)))).bind fun M9 => (fI M9 p0 3 3).bind fun v10 => (wfI M9 p0 3 3 ((v10 + 1))).bind fun M11 => some ((.inr (M11)))))
set_option maxHeartbeats 4000000 in
set_option maxRecDepth 100000 in
theorem b_X3_takeNumber_5 {X : CT} {lim : Nat} {M : MM} {p0 : Nat} (O : OKX X cX3_takeNumber RX3 1 lim 2) (hi : True) (hn : M.1 ≤ lim) {o : (MM) ⊕ (MM)} (h : z_X3_takeNumber_5 M p0 = some o) (hK : (KI (fun (q : MM) => RTX X none none q) (fun (t : MM) => t.1 ≤ lim → WS X t 5 [(0, rf X.1 p0)] [])) o) : WS X M 5 [(0, rf X.1 p0)] [] := by
  unfold z_X3_takeNumber_5 at h
  refine s_aload_n (pc := 5) O dX3_takeNumber_5 rfl 0 rfl ?_
  obtain ⟨v1, e, h⟩ := bd h
  refine s_getI (pc := 6) O kc3 (k := 3) rfl tw_75 e dX3_takeNumber_6 ?_
  refine s_aload_n (pc := 9) O dX3_takeNumber_9 rfl 0 rfl ?_
  obtain ⟨v2, e, h⟩ := bd h
  refine s_getI (pc := 10) O kc3 (k := 1) rfl tw_70 e dX3_takeNumber_10 ?_
  refine s_icmp_ge (pc := 13) O (tgt := 73) dX3_takeNumber_13 (by decide) (fun c => ?_) (fun c => ?_)
  · have h := ifp c h
    obtain ⟨q0, hq0, ho0⟩ := mpi h; subst ho0; replace h := hq0
    exact s_sub (pc := 73) O [0] rfl (g_X3_takeNumber_73 O hi hn h hK)
  · have h := ifn c h
    refine s_aload_n (pc := 16) O dX3_takeNumber_16 rfl 0 rfl ?_
    refine s_aload_n (pc := 17) O dX3_takeNumber_17 rfl 0 rfl ?_
    obtain ⟨v3, e, h⟩ := bd h
    refine s_getI (pc := 18) O kc3 (k := 3) rfl tw_75 e dX3_takeNumber_18 ?_
    refine s_bipush (pc := 21) O (v := 48) dX3_takeNumber_21 (by decide) ?_
    refine s_bipush (pc := 23) O (v := 57) dX3_takeNumber_23 (by decide) ?_
    obtain ⟨v4, e, h⟩ := bd h
    refine s_callVi (pc := 25) O (As := [.int v3, .int 48, .int 57]) kc3 (c_X3_isIn (G := X.1) e) cy_X3_isIn tw_299 tw_301 tw_0 (by decide) rfl (Nat.le_refl _) hn (r_X3_isIn e).1 (r_X3_isIn e).2 rfl (Nat.le_of_ble_eq_true rfl) dX3_takeNumber_25 ?_
    refine s_if_eq (pc := 28) O (tgt := 73) dX3_takeNumber_28 (by decide) (fun c => ?_) (fun c => ?_)
    · have h := ifp c h
      obtain ⟨q0, hq0, ho0⟩ := mpi h; subst ho0; replace h := hq0
      exact s_sub (pc := 73) O [0] rfl (g_X3_takeNumber_73 O hi hn h hK)
    · have h := ifn c h
      refine s_aload_n (pc := 31) O dX3_takeNumber_31 rfl 0 rfl ?_
      refine s_aload_n (pc := 32) O dX3_takeNumber_32 rfl 0 rfl ?_
      obtain ⟨v5, e, h⟩ := bd h
      refine s_getI (pc := 33) O kc3 (k := 5) rfl tw_80 e dX3_takeNumber_33 ?_
      refine s_bipush (pc := 36) O (v := 10) dX3_takeNumber_36 (by decide) ?_
      refine s_imul (pc := 38) O dX3_takeNumber_38 ?_
      refine s_aload_n (pc := 39) O dX3_takeNumber_39 rfl 0 rfl ?_
      obtain ⟨v6, e, h⟩ := bd h
      refine s_getR (pc := 40) O kc3 (k := 0) rfl tw_68 e dX3_takeNumber_40 ?_
      refine s_aload_n (pc := 43) O dX3_takeNumber_43 rfl 0 rfl ?_
      obtain ⟨v7, e, h⟩ := bd h
      refine s_getI (pc := 44) O kc3 (k := 3) rfl tw_75 e dX3_takeNumber_44 ?_
      obtain ⟨v8, e, h⟩ := bd h
      refine s_aldI (pc := 47) O e dX3_takeNumber_47 ?_
      refine s_iadd (pc := 48) O dX3_takeNumber_48 ?_
      refine s_bipush (pc := 49) O (v := 48) dX3_takeNumber_49 (by decide) ?_
      refine s_isub (pc := 51) O dX3_takeNumber_51 ?_
      refine s_bipush (pc := 52) O (v := 100) dX3_takeNumber_52 (by decide) ?_
      refine s_mmin (pc := 54) O tw_365 hn (by decide) (Nat.le_of_ble_eq_true rfl) dX3_takeNumber_54 ?_
      obtain ⟨M9, e, h⟩ := bd h
      refine s_putI (pc := 57) O kc3 (k := 5) rfl rfl rfl tw_80 e dX3_takeNumber_57 ?_
      have hn : M9.1 ≤ lim := by rw [wfI_n e]; exact hn
      refine s_aload_n (pc := 60) O dX3_takeNumber_60 rfl 0 rfl ?_
      refine s_dup (pc := 61) O dX3_takeNumber_61 rfl ?_
      obtain ⟨v10, e, h⟩ := bd h
      refine s_getI (pc := 62) O kc3 (k := 3) rfl tw_75 e dX3_takeNumber_62 ?_
      refine s_iconst (pc := 65) O (v := 1) dX3_takeNumber_65 (by decide) ?_
      refine s_iadd (pc := 66) O dX3_takeNumber_66 ?_
      obtain ⟨M11, e, h⟩ := bd h
      refine s_putI (pc := 67) O kc3 (k := 3) rfl rfl rfl tw_75 e dX3_takeNumber_67 ?_
      have hn : M11.1 ≤ lim := by rw [wfI_n e]; exact hn
      refine s_goto (pc := 70) O (tgt := 5) dX3_takeNumber_70 (by decide) ?_
      cases h
      exact s_sub (pc := 5) O [0] rfl (hK hn)
set_option maxHeartbeats 4000000 in
set_option maxRecDepth 100000 in
theorem l_X3_takeNumber_5 {X : CT} {lim : Nat} {M : MM} {p0 : Nat} (O : OKX X cX3_takeNumber RX3 1 lim 2) (hi : True) (hn : M.1 ≤ lim) {o : MM} {n : Nat} (h : lp (fun t => z_X3_takeNumber_5 t p0) n (M) = some o) (hK : (fun (q : MM) => RTX X none none q) o) : WS X M 5 [(0, rf X.1 p0)] [] := by
  refine lp_ind (P := fun (o : MM) (t : MM) => t.1 ≤ lim → (fun (q : MM) => RTX X none none q) o → WS X t 5 [(0, rf X.1 p0)] []) (fun t o hs hn hK => ?_) n (M) o h hn hK
  rcases hs with h | ⟨u, h, hu⟩
  · exact b_X3_takeNumber_5 O hi hn h hK
  · exact b_X3_takeNumber_5 O hi hn h (show KI _ _ (.inr u) from fun hn => hu hn hK)
def f_X3_takeNumber (M : MM) (p0 : Nat) : Option (MM) :=
  if p0 < M.1 ∧ kd p0 = 3 then ((wfI M p0 3 5 0).bind fun M1 => lp (fun t => z_X3_takeNumber_5 t p0) FU (M1)) else none
theorem r_X3_takeNumber {M : MM} {p0 : Nat} {o : MM} (h : f_X3_takeNumber M p0 = some o) : p0 < M.1 ∧ kd p0 = 3 := by
  unfold f_X3_takeNumber at h
  exact (gd h).1
theorem cy_X3_takeNumber : CallY yX3_takeNumber cX3_takeNumber 2 (none) 0 := ⟨by decide +kernel, tw_364, tw_41, by decide⟩
set_option maxHeartbeats 4000000 in
set_option maxRecDepth 100000 in
theorem c_X3_takeNumber {G : GG} {M : MM} {p0 : Nat} {M' : MM} (h : f_X3_takeNumber M p0 = some M') (hn : M.1 ≤ M'.1) : Ct G yX3_takeNumber cX3_takeNumber 2 (none) 1 [rf G p0] M (none) M' := by
  refine ct_of (by decide +kernel) (Nat.le_of_ble_eq_true rfl) (fun X hX O hK hi0 => ?_)
  subst hX
  obtain ⟨lim, hlim⟩ : ∃ z, z = M'.1 := ⟨_, rfl⟩
  rw [← hlim] at O hn
  replace O : OKX X cX3_takeNumber RX3 1 lim 2 := O
  have hi : True := trivial
  show WS X M 0 [(0, rf X.1 p0)] []
  unfold f_X3_takeNumber at h
  obtain ⟨hg0, h⟩ := gd h
  refine s_aload_n (pc := 0) O dX3_takeNumber_0 rfl 0 rfl ?_
  refine s_iconst (pc := 1) O (v := 0) dX3_takeNumber_1 (by decide) ?_
  obtain ⟨M1, e, h⟩ := bd h
  refine s_putI (pc := 2) O kc3 (k := 5) rfl rfl rfl tw_80 e dX3_takeNumber_2 ?_
  have hn : M1.1 ≤ lim := by rw [wfI_n e]; exact hn
  exact s_sub (pc := 5) O [0] rfl (l_X3_takeNumber_5 O hi hn h hK)

def f_X5_init (lim : Nat) (M : MM) (p0 : Nat) : Option (MM) :=
  if p0 < M.1 ∧ kd p0 = 5 then ((nArr M lim 8 5).bind fun M1 => (wfR M1 p0 5 0 M.1).bind fun M2 => some M2) else none
theorem r_X5_init {lim : Nat} {M : MM} {p0 : Nat} {o : MM} (h : f_X5_init lim M p0 = some o) : p0 < M.1 ∧ kd p0 = 5 := by
  unfold f_X5_init at h
  exact (gd h).1
theorem cy_X5_init : CallY yX5_init cX5_init 1 (none) 0 := ⟨by decide +kernel, tw_183, tw_45, by decide⟩
set_option maxHeartbeats 4000000 in
set_option maxRecDepth 100000 in
theorem c_X5_init {G : GG} {M : MM} {p0 : Nat} {M' : MM} (h : f_X5_init M'.1 M p0 = some M') (hn : M.1 ≤ M'.1) : Ct G yX5_init cX5_init 1 (none) 1 [rf G p0] M (none) M' := by
  refine ct_of (by decide +kernel) (Nat.le_of_ble_eq_true rfl) (fun X hX O hK hi0 => ?_)
  subst hX
  obtain ⟨lim, hlim⟩ : ∃ z, z = M'.1 := ⟨_, rfl⟩
  rw [← hlim] at O hn h
  replace O : OKX X cX5_init RX5 1 lim 1 := O
  have hi : isInit X := hi0 rfl
  show WS X M 0 [(0, rf X.1 p0)] []
  unfold f_X5_init at h
  obtain ⟨hg0, h⟩ := gd h
  refine s_aload_n (pc := 0) O dX5_init_0 rfl 0 rfl ?_
  refine s_objInit (pc := 1) O tw_184 tw_60 tw_61 (by decide) (Nat.le_of_ble_eq_true rfl) dX5_init_1 ?_
  refine s_aload_n (pc := 4) O dX5_init_4 rfl 0 rfl ?_
  refine s_iconst (pc := 5) O (v := 5) dX5_init_5 (by decide) ?_
  obtain ⟨M1, e, h⟩ := bd h
  refine s_newaI (pc := 6) O tw_94 (ln_small _) e dX5_init_6 ?_
  have hn : M1.1 ≤ lim := nArr_n e
  obtain ⟨M2, e, h⟩ := bd h
  refine s_putRF (pc := 8) O kc5 (k := 0) rfl (Or.inr ⟨_, rfl⟩) rfl hi rfl tw_185 e dX5_init_8 ?_
  have hn : M2.1 ≤ lim := by rw [wfR_n e]; exact hn
  cases h
  exact s_vret (pc := 11) O hK dX5_init_11

def f_X6_back (M : MM) (p0 : Nat) (a1 : Int32) : Option (Int32 × MM) :=
  if p0 < M.1 ∧ kd p0 = 6 then (if a1 < 0 then (some (((-1), M))) else (if a1 < 2 then ((fR M p0 6 3).bind fun v1 => (aR M v1 11 a1).bind fun v2 => (fI M v2 0 2).bind fun v3 => if v3 = 0 then (some (((-2), M))) else ((fR M p0 6 2).bind fun v4 => (fR M p0 6 3).bind fun v5 => (aR M v5 11 a1).bind fun v6 => (f_X0_become M v4 v6).bind fun M7 => if M7.1 = M.1 then ((fR M7 p0 6 2).bind fun v8 => (fI M7 v8 0 1).bind fun v9 => some ((v9, M7))) else none)) else (some (((-1), M))))) else none
theorem r_X6_back {M : MM} {p0 : Nat} {a1 : Int32} {o : Int32 × MM} (h : f_X6_back M p0 a1 = some o) : p0 < M.1 ∧ kd p0 = 6 := by
  unfold f_X6_back at h
  exact (gd h).1
theorem cy_X6_back : CallY yX6_back cX6_back 2 (some .int) 1 := ⟨by decide +kernel, tw_627, tw_40, by decide⟩
set_option maxHeartbeats 4000000 in
set_option maxRecDepth 100000 in
theorem c_X6_back {G : GG} {M : MM} {p0 : Nat} {a1 : Int32} {r : Int32} {M' : MM} (h : f_X6_back M p0 a1 = some (r, M')) (hn : M.1 ≤ M'.1) : Ct G yX6_back cX6_back 2 (some .int) 1 [rf G p0, .int a1] M (some (.int r)) M' := by
  refine ct_of (by decide +kernel) (Nat.le_of_ble_eq_true rfl) (fun X hX O hK hi0 => ?_)
  subst hX
  obtain ⟨lim, hlim⟩ : ∃ z, z = M'.1 := ⟨_, rfl⟩
  rw [← hlim] at O hn
  replace O : OKX X cX6_back RX6 1 lim 2 := O
  have hi : True := trivial
  show WS X M 0 [(0, rf X.1 p0), (1, .int a1)] []
  replace hK : (fun (q : Int32 × MM) => RTX X (some .int) (some (.int q.1)) q.2) (r, M') := hK
  generalize (r, M') = o at h hK
  unfold f_X6_back at h
  obtain ⟨hg0, h⟩ := gd h
  refine s_iload_n (pc := 0) O dX6_back_0 rfl 1 rfl ?_
  refine s_if_lt (pc := 1) O (tgt := 9) dX6_back_1 (by decide) (fun c => ?_) (fun c => ?_)
  · have h := ifp c h
    refine s_iconst (pc := 9) O (v := (-1)) dX6_back_9 (by decide) ?_
    cases h
    exact s_iret (pc := 10) O hK dX6_back_10
  · have h := ifn c h
    refine s_iload_n (pc := 4) O dX6_back_4 rfl 1 rfl ?_
    refine s_iconst (pc := 5) O (v := 2) dX6_back_5 (by decide) ?_
    refine s_icmp_lt (pc := 6) O (tgt := 11) dX6_back_6 (by decide) (fun c => ?_) (fun c => ?_)
    · have h := ifp c h
      refine s_aload_n (pc := 11) O dX6_back_11 rfl 0 rfl ?_
      obtain ⟨v1, e, h⟩ := bd h
      refine s_getR (pc := 12) O kc6 (k := 3) rfl tw_252 e dX6_back_12 ?_
      refine s_iload_n (pc := 15) O dX6_back_15 rfl 1 rfl ?_
      obtain ⟨v2, e, h⟩ := bd h
      refine s_aldR11 (pc := 16) O e dX6_back_16 ?_
      obtain ⟨v3, e, h⟩ := bd h
      refine s_getI (pc := 17) O kc0 (k := 2) rfl tw_161 e dX6_back_17 ?_
      refine s_if_ne (pc := 20) O (tgt := 26) dX6_back_20 (by decide) (fun c => ?_) (fun c => ?_)
      · have h := ifn c h
        refine s_aload_n (pc := 26) O dX6_back_26 rfl 0 rfl ?_
        obtain ⟨v4, e, h⟩ := bd h
        refine s_getR (pc := 27) O kc6 (k := 2) rfl tw_251 e dX6_back_27 ?_
        refine s_aload_n (pc := 30) O dX6_back_30 rfl 0 rfl ?_
        obtain ⟨v5, e, h⟩ := bd h
        refine s_getR (pc := 31) O kc6 (k := 3) rfl tw_252 e dX6_back_31 ?_
        refine s_iload_n (pc := 34) O dX6_back_34 rfl 1 rfl ?_
        obtain ⟨v6, e, h⟩ := bd h
        refine s_aldR11 (pc := 35) O e dX6_back_35 ?_
        obtain ⟨M7, e, h⟩ := bd h
        obtain ⟨hg, h⟩ := gd h
        refine s_callVv (pc := 36) O (As := [rf X.1 v6]) kc0 (c_X0_become (G := X.1) e (Nat.le_of_eq hg.symm)) cy_X0_become tw_620 tw_621 tw_622 (by decide) rfl (Nat.le_of_eq hg.symm) (by rw [hg]; exact hn) (r_X0_become e).1 (r_X0_become e).2 rfl (Nat.le_of_ble_eq_true rfl) dX6_back_36 ?_
        have hn : M7.1 ≤ lim := by rw [hg]; exact hn
        refine s_aload_n (pc := 39) O dX6_back_39 rfl 0 rfl ?_
        obtain ⟨v8, e, h⟩ := bd h
        refine s_getR (pc := 40) O kc6 (k := 2) rfl tw_251 e dX6_back_40 ?_
        obtain ⟨v9, e, h⟩ := bd h
        refine s_getI (pc := 43) O kc0 (k := 1) rfl tw_160 e dX6_back_43 ?_
        cases h
        exact s_iret (pc := 46) O hK dX6_back_46
      · have h := ifp c h
        refine s_bipush (pc := 23) O (v := (-2)) dX6_back_23 (by decide) ?_
        cases h
        exact s_iret (pc := 25) O hK dX6_back_25
    · have h := ifn c h
      refine s_iconst (pc := 9) O (v := (-1)) dX6_back_9 (by decide) ?_
      cases h
      exact s_iret (pc := 10) O hK dX6_back_10

def f_X6_best (M : MM) (p0 : Nat) (a1 : Int32) : Option (Int32) :=
  if p0 < M.1 ∧ kd p0 = 6 then (if a1 < 0 then (some ((-1))) else (if a1 ≤ 1 then ((fR M p0 6 1).bind fun v1 => (f_X1_bestToWrite M v1).bind fun v2 => if v2 = 0 then (some ((-9))) else (if a1 = 0 then (some v2) else ((fR M p0 6 1).bind fun v3 => (fR M v3 1 3).bind fun v4 => (fR M p0 6 1).bind fun v5 => (fR M v5 1 7).bind fun v6 => (aI M v6 v2).bind fun v7 => (aI M v4 v7).bind fun v8 => some v8))) else (some ((-1))))) else none
theorem r_X6_best {M : MM} {p0 : Nat} {a1 : Int32} {o : Int32} (h : f_X6_best M p0 a1 = some o) : p0 < M.1 ∧ kd p0 = 6 := by
  unfold f_X6_best at h
  exact (gd h).1
theorem cy_X6_best : CallY yX6_best cX6_best 3 (some .int) 1 := ⟨by decide +kernel, tw_520, tw_40, by decide⟩
set_option maxHeartbeats 4000000 in
set_option maxRecDepth 100000 in
theorem c_X6_best {G : GG} {M : MM} {p0 : Nat} {a1 : Int32} {r : Int32} (h : f_X6_best M p0 a1 = some r) : Ct G yX6_best cX6_best 3 (some .int) 1 [rf G p0, .int a1] M (some (.int r)) M := by
  refine ct_of (by decide +kernel) (Nat.le_of_ble_eq_true rfl) (fun X hX O hK hi0 => ?_)
  subst hX
  obtain ⟨lim, hlim⟩ : ∃ z, z = M.1 := ⟨_, rfl⟩
  rw [← hlim] at O
  replace O : OKX X cX6_best RX6 1 lim 3 := O
  have hi : True := trivial
  have hn : M.1 ≤ lim := Nat.le_of_eq hlim.symm
  show WS X M 0 [(0, rf X.1 p0), (1, .int a1)] []
  unfold f_X6_best at h
  obtain ⟨hg0, h⟩ := gd h
  refine s_iload_n (pc := 0) O dX6_best_0 rfl 1 rfl ?_
  refine s_if_lt (pc := 1) O (tgt := 9) dX6_best_1 (by decide) (fun c => ?_) (fun c => ?_)
  · have h := ifp c h
    refine s_iconst (pc := 9) O (v := (-1)) dX6_best_9 (by decide) ?_
    cases h
    exact s_iret (pc := 10) O hK dX6_best_10
  · have h := ifn c h
    refine s_iload_n (pc := 4) O dX6_best_4 rfl 1 rfl ?_
    refine s_iconst (pc := 5) O (v := 1) dX6_best_5 (by decide) ?_
    refine s_icmp_le (pc := 6) O (tgt := 11) dX6_best_6 (by decide) (fun c => ?_) (fun c => ?_)
    · have h := ifp c h
      refine s_aload_n (pc := 11) O dX6_best_11 rfl 0 rfl ?_
      obtain ⟨v1, e, h⟩ := bd h
      refine s_getR (pc := 12) O kc6 (k := 1) rfl tw_250 e dX6_best_12 ?_
      obtain ⟨v2, e, h⟩ := bd h
      refine s_callVi (pc := 15) O (As := []) kc1 (c_X1_bestToWrite (G := X.1) e) cy_X1_bestToWrite tw_521 tw_522 tw_523 (by decide) rfl (Nat.le_refl _) hn (r_X1_bestToWrite e).1 (r_X1_bestToWrite e).2 rfl (Nat.le_of_ble_eq_true rfl) dX6_best_15 ?_
      refine s_istore_n (pc := 18) O (loc' := [(2, .int v2), (0, rf X.1 p0), (1, .int a1)]) dX6_best_18 rfl (by decide) rfl ?_
      refine s_iload_n (pc := 19) O dX6_best_19 rfl 0 rfl ?_
      refine s_if_ne (pc := 20) O (tgt := 26) dX6_best_20 (by decide) (fun c => ?_) (fun c => ?_)
      · have h := ifn c h
        refine s_iload_n (pc := 26) O dX6_best_26 rfl 2 rfl ?_
        refine s_if_ne (pc := 27) O (tgt := 34) dX6_best_27 (by decide) (fun c => ?_) (fun c => ?_)
        · have h := ifn c h
          refine s_aload_n (pc := 34) O dX6_best_34 rfl 1 rfl ?_
          obtain ⟨v3, e, h⟩ := bd h
          refine s_getR (pc := 35) O kc6 (k := 1) rfl tw_250 e dX6_best_35 ?_
          obtain ⟨v4, e, h⟩ := bd h
          refine s_getR (pc := 38) O kc1 (k := 3) rfl tw_106 e dX6_best_38 ?_
          refine s_aload_n (pc := 41) O dX6_best_41 rfl 1 rfl ?_
          obtain ⟨v5, e, h⟩ := bd h
          refine s_getR (pc := 42) O kc6 (k := 1) rfl tw_250 e dX6_best_42 ?_
          obtain ⟨v6, e, h⟩ := bd h
          refine s_getR (pc := 45) O kc1 (k := 7) rfl tw_112 e dX6_best_45 ?_
          refine s_iload_n (pc := 48) O dX6_best_48 rfl 0 rfl ?_
          obtain ⟨v7, e, h⟩ := bd h
          refine s_aldI (pc := 49) O e dX6_best_49 ?_
          obtain ⟨v8, e, h⟩ := bd h
          refine s_aldI (pc := 50) O e dX6_best_50 ?_
          cases h
          exact s_iret (pc := 51) O hK dX6_best_51
        · have h := ifp c h
          refine s_iload_n (pc := 30) O dX6_best_30 rfl 0 rfl ?_
          refine s_goto (pc := 31) O (tgt := 51) dX6_best_31 (by decide) ?_
          cases h
          exact s_iret (pc := 51) O hK dX6_best_51
      · have h := ifp c h
        refine s_bipush (pc := 23) O (v := (-9)) dX6_best_23 (by decide) ?_
        cases h
        exact s_iret (pc := 25) O hK dX6_best_25
    · have h := ifn c h
      refine s_iconst (pc := 9) O (v := (-1)) dX6_best_9 (by decide) ?_
      cases h
      exact s_iret (pc := 10) O hK dX6_best_10

def f_X6_chain (M : MM) (p0 : Nat) (a1 : Int32) (a2 : Int32) : Option (Int32) :=
  if p0 < M.1 ∧ kd p0 = 6 then ((fR M p0 6 1).bind fun v1 => (f_X1_canBeSaid M v1 a1).bind fun v2 => if v2 = 0 then (some ((-1))) else (if a2 < 0 then (some ((-1))) else (if a2 ≤ 99 then ((fR M p0 6 1).bind fun v3 => (f_X1_follow M v3 a1 a2).bind fun v4 => some v4) else (some ((-1)))))) else none
theorem r_X6_chain {M : MM} {p0 : Nat} {a1 : Int32} {a2 : Int32} {o : Int32} (h : f_X6_chain M p0 a1 a2 = some o) : p0 < M.1 ∧ kd p0 = 6 := by
  unfold f_X6_chain at h
  exact (gd h).1
theorem cy_X6_chain : CallY yX6_chain cX6_chain 3 (some .int) 2 := ⟨by decide +kernel, tw_536, tw_40, by decide⟩
set_option maxHeartbeats 4000000 in
set_option maxRecDepth 100000 in
theorem c_X6_chain {G : GG} {M : MM} {p0 : Nat} {a1 : Int32} {a2 : Int32} {r : Int32} (h : f_X6_chain M p0 a1 a2 = some r) : Ct G yX6_chain cX6_chain 3 (some .int) 1 [rf G p0, .int a1, .int a2] M (some (.int r)) M := by
  refine ct_of (by decide +kernel) (Nat.le_of_ble_eq_true rfl) (fun X hX O hK hi0 => ?_)
  subst hX
  obtain ⟨lim, hlim⟩ : ∃ z, z = M.1 := ⟨_, rfl⟩
  rw [← hlim] at O
  replace O : OKX X cX6_chain RX6 1 lim 3 := O
  have hi : True := trivial
  have hn : M.1 ≤ lim := Nat.le_of_eq hlim.symm
  show WS X M 0 [(0, rf X.1 p0), (1, .int a1), (2, .int a2)] []
  unfold f_X6_chain at h
  obtain ⟨hg0, h⟩ := gd h
  refine s_aload_n (pc := 0) O dX6_chain_0 rfl 0 rfl ?_
  obtain ⟨v1, e, h⟩ := bd h
  refine s_getR (pc := 1) O kc6 (k := 1) rfl tw_250 e dX6_chain_1 ?_
  refine s_iload_n (pc := 4) O dX6_chain_4 rfl 1 rfl ?_
  obtain ⟨v2, e, h⟩ := bd h
  refine s_callVi (pc := 5) O (As := [.int a1]) kc1 (c_X1_canBeSaid (G := X.1) e) cy_X1_canBeSaid tw_431 tw_432 tw_433 (by decide) rfl (Nat.le_refl _) hn (r_X1_canBeSaid e).1 (r_X1_canBeSaid e).2 rfl (Nat.le_of_ble_eq_true rfl) dX6_chain_5 ?_
  refine s_if_eq (pc := 8) O (tgt := 21) dX6_chain_8 (by decide) (fun c => ?_) (fun c => ?_)
  · have h := ifp c h
    refine s_iconst (pc := 21) O (v := (-1)) dX6_chain_21 (by decide) ?_
    cases h
    exact s_iret (pc := 22) O hK dX6_chain_22
  · have h := ifn c h
    refine s_iload_n (pc := 11) O dX6_chain_11 rfl 2 rfl ?_
    refine s_if_lt (pc := 12) O (tgt := 21) dX6_chain_12 (by decide) (fun c => ?_) (fun c => ?_)
    · have h := ifp c h
      refine s_iconst (pc := 21) O (v := (-1)) dX6_chain_21 (by decide) ?_
      cases h
      exact s_iret (pc := 22) O hK dX6_chain_22
    · have h := ifn c h
      refine s_iload_n (pc := 15) O dX6_chain_15 rfl 2 rfl ?_
      refine s_bipush (pc := 16) O (v := 99) dX6_chain_16 (by decide) ?_
      refine s_icmp_le (pc := 18) O (tgt := 23) dX6_chain_18 (by decide) (fun c => ?_) (fun c => ?_)
      · have h := ifp c h
        refine s_aload_n (pc := 23) O dX6_chain_23 rfl 0 rfl ?_
        obtain ⟨v3, e, h⟩ := bd h
        refine s_getR (pc := 24) O kc6 (k := 1) rfl tw_250 e dX6_chain_24 ?_
        refine s_iload_n (pc := 27) O dX6_chain_27 rfl 1 rfl ?_
        refine s_iload_n (pc := 28) O dX6_chain_28 rfl 2 rfl ?_
        obtain ⟨v4, e, h⟩ := bd h
        refine s_callVi (pc := 29) O (As := [.int a1, .int a2]) kc1 (c_X1_follow (G := X.1) e) cy_X1_follow tw_537 tw_538 tw_539 (by decide) rfl (Nat.le_refl _) hn (r_X1_follow e).1 (r_X1_follow e).2 rfl (Nat.le_of_ble_eq_true rfl) dX6_chain_29 ?_
        cases h
        exact s_iret (pc := 32) O hK dX6_chain_32
      · have h := ifn c h
        refine s_iconst (pc := 21) O (v := (-1)) dX6_chain_21 (by decide) ?_
        cases h
        exact s_iret (pc := 22) O hK dX6_chain_22

def f_X6_has (M : MM) (p0 : Nat) (a1 : Int32) (a2 : Int32) : Option (Int32) :=
  if p0 < M.1 ∧ kd p0 = 6 then ((fR M p0 6 1).bind fun v1 => (f_X1_canBeSaid M v1 a1).bind fun v2 => if v2 = 0 then (some ((-1))) else (if a2 < 0 then (some ((-1))) else (if a2 < 8 then ((fR M p0 6 1).bind fun v3 => (f_X1_countOf M v3 a1 a2).bind fun v4 => some v4) else (some ((-1)))))) else none
theorem r_X6_has {M : MM} {p0 : Nat} {a1 : Int32} {a2 : Int32} {o : Int32} (h : f_X6_has M p0 a1 a2 = some o) : p0 < M.1 ∧ kd p0 = 6 := by
  unfold f_X6_has at h
  exact (gd h).1
theorem cy_X6_has : CallY yX6_has cX6_has 3 (some .int) 2 := ⟨by decide +kernel, tw_438, tw_40, by decide⟩
set_option maxHeartbeats 4000000 in
set_option maxRecDepth 100000 in
theorem c_X6_has {G : GG} {M : MM} {p0 : Nat} {a1 : Int32} {a2 : Int32} {r : Int32} (h : f_X6_has M p0 a1 a2 = some r) : Ct G yX6_has cX6_has 3 (some .int) 1 [rf G p0, .int a1, .int a2] M (some (.int r)) M := by
  refine ct_of (by decide +kernel) (Nat.le_of_ble_eq_true rfl) (fun X hX O hK hi0 => ?_)
  subst hX
  obtain ⟨lim, hlim⟩ : ∃ z, z = M.1 := ⟨_, rfl⟩
  rw [← hlim] at O
  replace O : OKX X cX6_has RX6 1 lim 3 := O
  have hi : True := trivial
  have hn : M.1 ≤ lim := Nat.le_of_eq hlim.symm
  show WS X M 0 [(0, rf X.1 p0), (1, .int a1), (2, .int a2)] []
  unfold f_X6_has at h
  obtain ⟨hg0, h⟩ := gd h
  refine s_aload_n (pc := 0) O dX6_has_0 rfl 0 rfl ?_
  obtain ⟨v1, e, h⟩ := bd h
  refine s_getR (pc := 1) O kc6 (k := 1) rfl tw_250 e dX6_has_1 ?_
  refine s_iload_n (pc := 4) O dX6_has_4 rfl 1 rfl ?_
  obtain ⟨v2, e, h⟩ := bd h
  refine s_callVi (pc := 5) O (As := [.int a1]) kc1 (c_X1_canBeSaid (G := X.1) e) cy_X1_canBeSaid tw_431 tw_432 tw_433 (by decide) rfl (Nat.le_refl _) hn (r_X1_canBeSaid e).1 (r_X1_canBeSaid e).2 rfl (Nat.le_of_ble_eq_true rfl) dX6_has_5 ?_
  refine s_if_eq (pc := 8) O (tgt := 21) dX6_has_8 (by decide) (fun c => ?_) (fun c => ?_)
  · have h := ifp c h
    refine s_iconst (pc := 21) O (v := (-1)) dX6_has_21 (by decide) ?_
    cases h
    exact s_iret (pc := 22) O hK dX6_has_22
  · have h := ifn c h
    refine s_iload_n (pc := 11) O dX6_has_11 rfl 2 rfl ?_
    refine s_if_lt (pc := 12) O (tgt := 21) dX6_has_12 (by decide) (fun c => ?_) (fun c => ?_)
    · have h := ifp c h
      refine s_iconst (pc := 21) O (v := (-1)) dX6_has_21 (by decide) ?_
      cases h
      exact s_iret (pc := 22) O hK dX6_has_22
    · have h := ifn c h
      refine s_iload_n (pc := 15) O dX6_has_15 rfl 2 rfl ?_
      refine s_bipush (pc := 16) O (v := 8) dX6_has_16 (by decide) ?_
      refine s_icmp_lt (pc := 18) O (tgt := 23) dX6_has_18 (by decide) (fun c => ?_) (fun c => ?_)
      · have h := ifp c h
        refine s_aload_n (pc := 23) O dX6_has_23 rfl 0 rfl ?_
        obtain ⟨v3, e, h⟩ := bd h
        refine s_getR (pc := 24) O kc6 (k := 1) rfl tw_250 e dX6_has_24 ?_
        refine s_iload_n (pc := 27) O dX6_has_27 rfl 1 rfl ?_
        refine s_iload_n (pc := 28) O dX6_has_28 rfl 2 rfl ?_
        obtain ⟨v4, e, h⟩ := bd h
        refine s_callVi (pc := 29) O (As := [.int a1, .int a2]) kc1 (c_X1_countOf (G := X.1) e) cy_X1_countOf tw_439 tw_440 tw_441 (by decide) rfl (Nat.le_refl _) hn (r_X1_countOf e).1 (r_X1_countOf e).2 rfl (Nat.le_of_ble_eq_true rfl) dX6_has_29 ?_
        cases h
        exact s_iret (pc := 32) O hK dX6_has_32
      · have h := ifn c h
        refine s_iconst (pc := 21) O (v := (-1)) dX6_has_21 (by decide) ?_
        cases h
        exact s_iret (pc := 22) O hK dX6_has_22

def f_X6_keep (M : MM) (p0 : Nat) (a1 : Int32) : Option (Int32 × MM) :=
  if p0 < M.1 ∧ kd p0 = 6 then (if a1 < 0 then (some (((-1), M))) else (if a1 < 2 then ((fR M p0 6 3).bind fun v1 => (aR M v1 11 a1).bind fun v2 => (fR M p0 6 2).bind fun v3 => (f_X0_become M v2 v3).bind fun M4 => if M4.1 = M.1 then ((fR M4 p0 6 3).bind fun v5 => (aR M4 v5 11 a1).bind fun v6 => (wfZ M4 v6 0 2 1).bind fun M7 => (fR M7 p0 6 2).bind fun v8 => (fI M7 v8 0 1).bind fun v9 => some ((v9, M7))) else none) else (some (((-1), M))))) else none
theorem r_X6_keep {M : MM} {p0 : Nat} {a1 : Int32} {o : Int32 × MM} (h : f_X6_keep M p0 a1 = some o) : p0 < M.1 ∧ kd p0 = 6 := by
  unfold f_X6_keep at h
  exact (gd h).1
theorem cy_X6_keep : CallY yX6_keep cX6_keep 2 (some .int) 1 := ⟨by decide +kernel, tw_619, tw_40, by decide⟩
set_option maxHeartbeats 4000000 in
set_option maxRecDepth 100000 in
theorem c_X6_keep {G : GG} {M : MM} {p0 : Nat} {a1 : Int32} {r : Int32} {M' : MM} (h : f_X6_keep M p0 a1 = some (r, M')) (hn : M.1 ≤ M'.1) : Ct G yX6_keep cX6_keep 2 (some .int) 1 [rf G p0, .int a1] M (some (.int r)) M' := by
  refine ct_of (by decide +kernel) (Nat.le_of_ble_eq_true rfl) (fun X hX O hK hi0 => ?_)
  subst hX
  obtain ⟨lim, hlim⟩ : ∃ z, z = M'.1 := ⟨_, rfl⟩
  rw [← hlim] at O hn
  replace O : OKX X cX6_keep RX6 1 lim 2 := O
  have hi : True := trivial
  show WS X M 0 [(0, rf X.1 p0), (1, .int a1)] []
  replace hK : (fun (q : Int32 × MM) => RTX X (some .int) (some (.int q.1)) q.2) (r, M') := hK
  generalize (r, M') = o at h hK
  unfold f_X6_keep at h
  obtain ⟨hg0, h⟩ := gd h
  refine s_iload_n (pc := 0) O dX6_keep_0 rfl 1 rfl ?_
  refine s_if_lt (pc := 1) O (tgt := 9) dX6_keep_1 (by decide) (fun c => ?_) (fun c => ?_)
  · have h := ifp c h
    refine s_iconst (pc := 9) O (v := (-1)) dX6_keep_9 (by decide) ?_
    cases h
    exact s_iret (pc := 10) O hK dX6_keep_10
  · have h := ifn c h
    refine s_iload_n (pc := 4) O dX6_keep_4 rfl 1 rfl ?_
    refine s_iconst (pc := 5) O (v := 2) dX6_keep_5 (by decide) ?_
    refine s_icmp_lt (pc := 6) O (tgt := 11) dX6_keep_6 (by decide) (fun c => ?_) (fun c => ?_)
    · have h := ifp c h
      refine s_aload_n (pc := 11) O dX6_keep_11 rfl 0 rfl ?_
      obtain ⟨v1, e, h⟩ := bd h
      refine s_getR (pc := 12) O kc6 (k := 3) rfl tw_252 e dX6_keep_12 ?_
      refine s_iload_n (pc := 15) O dX6_keep_15 rfl 1 rfl ?_
      obtain ⟨v2, e, h⟩ := bd h
      refine s_aldR11 (pc := 16) O e dX6_keep_16 ?_
      refine s_aload_n (pc := 17) O dX6_keep_17 rfl 0 rfl ?_
      obtain ⟨v3, e, h⟩ := bd h
      refine s_getR (pc := 18) O kc6 (k := 2) rfl tw_251 e dX6_keep_18 ?_
      obtain ⟨M4, e, h⟩ := bd h
      obtain ⟨hg, h⟩ := gd h
      refine s_callVv (pc := 21) O (As := [rf X.1 v3]) kc0 (c_X0_become (G := X.1) e (Nat.le_of_eq hg.symm)) cy_X0_become tw_620 tw_621 tw_622 (by decide) rfl (Nat.le_of_eq hg.symm) (by rw [hg]; exact hn) (r_X0_become e).1 (r_X0_become e).2 rfl (Nat.le_of_ble_eq_true rfl) dX6_keep_21 ?_
      have hn : M4.1 ≤ lim := by rw [hg]; exact hn
      refine s_aload_n (pc := 24) O dX6_keep_24 rfl 0 rfl ?_
      obtain ⟨v5, e, h⟩ := bd h
      refine s_getR (pc := 25) O kc6 (k := 3) rfl tw_252 e dX6_keep_25 ?_
      refine s_iload_n (pc := 28) O dX6_keep_28 rfl 1 rfl ?_
      obtain ⟨v6, e, h⟩ := bd h
      refine s_aldR11 (pc := 29) O e dX6_keep_29 ?_
      refine s_iconst (pc := 30) O (v := 1) dX6_keep_30 (by decide) ?_
      obtain ⟨M7, e, h⟩ := bd h
      refine s_putZ (pc := 31) O kc0 (k := 2) rfl rfl rfl tw_161 e dX6_keep_31 ?_
      have hn : M7.1 ≤ lim := by rw [wfZ_n e]; exact hn
      refine s_aload_n (pc := 34) O dX6_keep_34 rfl 0 rfl ?_
      obtain ⟨v8, e, h⟩ := bd h
      refine s_getR (pc := 35) O kc6 (k := 2) rfl tw_251 e dX6_keep_35 ?_
      obtain ⟨v9, e, h⟩ := bd h
      refine s_getI (pc := 38) O kc0 (k := 1) rfl tw_160 e dX6_keep_38 ?_
      cases h
      exact s_iret (pc := 41) O hK dX6_keep_41
    · have h := ifn c h
      refine s_iconst (pc := 9) O (v := (-1)) dX6_keep_9 (by decide) ?_
      cases h
      exact s_iret (pc := 10) O hK dX6_keep_10

def f_X6_letter (M : MM) (p0 : Nat) (a1 : Int32) (a2 : Int32) : Option (Int32) :=
  if p0 < M.1 ∧ kd p0 = 6 then ((fR M p0 6 1).bind fun v1 => (f_X1_canBeSaid M v1 a1).bind fun v2 => if v2 = 0 then (some ((-1))) else (if a2 = 0 then ((fR M p0 6 1).bind fun v3 => (fR M v3 1 2).bind fun v4 => (aI M v4 a1).bind fun v5 => some v5) else (if a2 = 1 then ((fR M p0 6 1).bind fun v6 => (fR M v6 1 3).bind fun v7 => (aI M v7 a1).bind fun v8 => some v8) else (if a2 = 2 then ((fR M p0 6 1).bind fun v9 => (fR M v9 1 4).bind fun v10 => (aI M v10 a1).bind fun v11 => some v11) else (some ((-1))))))) else none
theorem r_X6_letter {M : MM} {p0 : Nat} {a1 : Int32} {a2 : Int32} {o : Int32} (h : f_X6_letter M p0 a1 a2 = some o) : p0 < M.1 ∧ kd p0 = 6 := by
  unfold f_X6_letter at h
  exact (gd h).1
theorem cy_X6_letter : CallY yX6_letter cX6_letter 3 (some .int) 2 := ⟨by decide +kernel, tw_430, tw_40, by decide⟩
set_option maxHeartbeats 4000000 in
set_option maxRecDepth 100000 in
theorem c_X6_letter {G : GG} {M : MM} {p0 : Nat} {a1 : Int32} {a2 : Int32} {r : Int32} (h : f_X6_letter M p0 a1 a2 = some r) : Ct G yX6_letter cX6_letter 3 (some .int) 1 [rf G p0, .int a1, .int a2] M (some (.int r)) M := by
  refine ct_of (by decide +kernel) (Nat.le_of_ble_eq_true rfl) (fun X hX O hK hi0 => ?_)
  subst hX
  obtain ⟨lim, hlim⟩ : ∃ z, z = M.1 := ⟨_, rfl⟩
  rw [← hlim] at O
  replace O : OKX X cX6_letter RX6 1 lim 3 := O
  have hi : True := trivial
  have hn : M.1 ≤ lim := Nat.le_of_eq hlim.symm
  show WS X M 0 [(0, rf X.1 p0), (1, .int a1), (2, .int a2)] []
  unfold f_X6_letter at h
  obtain ⟨hg0, h⟩ := gd h
  refine s_aload_n (pc := 0) O dX6_letter_0 rfl 0 rfl ?_
  obtain ⟨v1, e, h⟩ := bd h
  refine s_getR (pc := 1) O kc6 (k := 1) rfl tw_250 e dX6_letter_1 ?_
  refine s_iload_n (pc := 4) O dX6_letter_4 rfl 1 rfl ?_
  obtain ⟨v2, e, h⟩ := bd h
  refine s_callVi (pc := 5) O (As := [.int a1]) kc1 (c_X1_canBeSaid (G := X.1) e) cy_X1_canBeSaid tw_431 tw_432 tw_433 (by decide) rfl (Nat.le_refl _) hn (r_X1_canBeSaid e).1 (r_X1_canBeSaid e).2 rfl (Nat.le_of_ble_eq_true rfl) dX6_letter_5 ?_
  refine s_if_ne (pc := 8) O (tgt := 13) dX6_letter_8 (by decide) (fun c => ?_) (fun c => ?_)
  · have h := ifn c h
    refine s_iload_n (pc := 13) O dX6_letter_13 rfl 2 rfl ?_
    obtain ⟨x, hx⟩ : ∃ y : Int32, y = a2 := ⟨_, rfl⟩
    rw [← hx] at h ⊢
    by_cases c0 : x = 0
    · have h := ifp c0 h
      subst c0
      refine s_tabIn (pc := 14) O (tgt := 40) dX6_letter_14 (by decide) (by decide) rfl (by decide) ?_
      refine s_aload_n (pc := 40) O dX6_letter_40 rfl 0 rfl ?_
      obtain ⟨v3, e, h⟩ := bd h
      refine s_getR (pc := 41) O kc6 (k := 1) rfl tw_250 e dX6_letter_41 ?_
      obtain ⟨v4, e, h⟩ := bd h
      refine s_getR (pc := 44) O kc1 (k := 2) rfl tw_104 e dX6_letter_44 ?_
      refine s_iload_n (pc := 47) O dX6_letter_47 rfl 1 rfl ?_
      obtain ⟨v5, e, h⟩ := bd h
      refine s_aldI (pc := 48) O e dX6_letter_48 ?_
      cases h
      exact s_iret (pc := 49) O hK dX6_letter_49
    have h := ifn c0 h
    by_cases c1 : x = 1
    · have h := ifp c1 h
      subst c1
      refine s_tabIn (pc := 14) O (tgt := 50) dX6_letter_14 (by decide) (by decide) rfl (by decide) ?_
      refine s_aload_n (pc := 50) O dX6_letter_50 rfl 0 rfl ?_
      obtain ⟨v6, e, h⟩ := bd h
      refine s_getR (pc := 51) O kc6 (k := 1) rfl tw_250 e dX6_letter_51 ?_
      obtain ⟨v7, e, h⟩ := bd h
      refine s_getR (pc := 54) O kc1 (k := 3) rfl tw_106 e dX6_letter_54 ?_
      refine s_iload_n (pc := 57) O dX6_letter_57 rfl 1 rfl ?_
      obtain ⟨v8, e, h⟩ := bd h
      refine s_aldI (pc := 58) O e dX6_letter_58 ?_
      cases h
      exact s_iret (pc := 59) O hK dX6_letter_59
    have h := ifn c1 h
    by_cases c2 : x = 2
    · have h := ifp c2 h
      subst c2
      refine s_tabIn (pc := 14) O (tgt := 60) dX6_letter_14 (by decide) (by decide) rfl (by decide) ?_
      refine s_aload_n (pc := 60) O dX6_letter_60 rfl 0 rfl ?_
      obtain ⟨v9, e, h⟩ := bd h
      refine s_getR (pc := 61) O kc6 (k := 1) rfl tw_250 e dX6_letter_61 ?_
      obtain ⟨v10, e, h⟩ := bd h
      refine s_getR (pc := 64) O kc1 (k := 4) rfl tw_108 e dX6_letter_64 ?_
      refine s_iload_n (pc := 67) O dX6_letter_67 rfl 1 rfl ?_
      obtain ⟨v11, e, h⟩ := bd h
      refine s_aldI (pc := 68) O e dX6_letter_68 ?_
      cases h
      exact s_iret (pc := 69) O hK dX6_letter_69
    have h := ifn c2 h
    refine s_tabOut (pc := 14) O (tgt := 70) dX6_letter_14 (by have := i32_neK (n := 0) (by decide) c0; have := i32_neK (n := 1) (by decide) c1; have := i32_neK (n := 2) (by decide) c2; omega) (by decide) ?_
    refine s_iconst (pc := 70) O (v := (-1)) dX6_letter_70 (by decide) ?_
    cases h
    exact s_iret (pc := 71) O hK dX6_letter_71
  · have h := ifp c h
    refine s_iconst (pc := 11) O (v := (-1)) dX6_letter_11 (by decide) ?_
    cases h
    exact s_iret (pc := 12) O hK dX6_letter_12

