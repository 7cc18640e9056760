def j_X7_asked_70 (M : MM) (p0 : Nat) (a2 : Int32) (a3 : Int32) (a5 : Int32) (s0 : Int32) (s1 : Int32) : Option ((Int32) ⊕ (Int32 × Int32)) :=
  some ((.inr ((s1 + s0), (a5 + 1))))
set_option maxHeartbeats 4000000 in
set_option maxRecDepth 100000 in
theorem g_X7_asked_70 {X : CT} {lim : Nat} {M : MM} {p0 : Nat} {a2 : Int32} {a3 : Int32} {a5 : Int32} {s0 : Int32} {s1 : Int32} (O : OKX X cX7_asked RX7 3 lim 6) (hi : True) (hn : M.1 ≤ lim) {o : (Int32) ⊕ (Int32 × Int32)} (h : j_X7_asked_70 M p0 a2 a3 a5 s0 s1 = some o) (hK : (KI (fun (q : Int32) => RTX X (some .int) (some (.int q)) M) (fun (t : Int32 × Int32) => WS X M 28 [(0, rf X.1 p0), (2, .int a2), (3, .int a3), (4, .int t.1), (5, .int t.2)] [])) o) : WS X M 70 [(0, rf X.1 p0), (2, .int a2), (3, .int a3), (5, .int a5)] [.int s0, .int s1] := by
  unfold j_X7_asked_70 at h
  refine s_iadd (pc := 70) O dX7_asked_70 ?_
  refine s_istore (pc := 71) O (loc' := [(4, .int (s1 + s0)), (0, rf X.1 p0), (2, .int a2), (3, .int a3), (5, .int a5)]) dX7_asked_71 (by decide) rfl ?_
  refine s_iinc (pc := 73) O (v := (a5 + 1)) (loc' := [(5, .int (a5 + 1)), (4, .int (s1 + s0)), (0, rf X.1 p0), (2, .int a2), (3, .int a3)]) dX7_asked_73 4 rfl rfl (by decide) rfl ?_
  refine s_goto (pc := 76) O (tgt := 28) dX7_asked_76 (by decide) ?_
  cases h
  exact s_sub (pc := 28) O [2, 3, 4, 1, 0] rfl hK
def j_X7_asked_69 (M : MM) (p0 : Nat) (a2 : Int32) (a3 : Int32) (a5 : Int32) (s0 : Int32) : Option ((Int32) ⊕ (Int32 × Int32)) :=
  j_X7_asked_70 M p0 a2 a3 a5 0 s0
set_option maxHeartbeats 4000000 in
set_option maxRecDepth 100000 in
theorem g_X7_asked_69 {X : CT} {lim : Nat} {M : MM} {p0 : Nat} {a2 : Int32} {a3 : Int32} {a5 : Int32} {s0 : Int32} (O : OKX X cX7_asked RX7 3 lim 6) (hi : True) (hn : M.1 ≤ lim) {o : (Int32) ⊕ (Int32 × Int32)} (h : j_X7_asked_69 M p0 a2 a3 a5 s0 = some o) (hK : (KI (fun (q : Int32) => RTX X (some .int) (some (.int q)) M) (fun (t : Int32 × Int32) => WS X M 28 [(0, rf X.1 p0), (2, .int a2), (3, .int a3), (4, .int t.1), (5, .int t.2)] [])) o) : WS X M 69 [(0, rf X.1 p0), (2, .int a2), (3, .int a3), (5, .int a5)] [.int s0] := by
  unfold j_X7_asked_69 at h
  refine s_iconst (pc := 69) O (v := 0) dX7_asked_69 (by decide) ?_
  exact s_sub (pc := 70) O [0, 1, 2, 3] rfl (g_X7_asked_70 O hi hn h hK)
def z_X7_asked_28 (M : MM) (p0 : Nat) (a2 : Int32) (a3 : Int32) (a4 : Int32) (a5 : Int32) : Option ((Int32) ⊕ (Int32 × Int32)) :=
  (fI M p0 7 12).bind fun v1 => if v1 ≤ a5 then (some ((.inl a4))) else ((f_X7_isAnswer M p0 a3 a5 0).bind fun v2 => if v2 = 0 then (j_X7_asked_69 M p0 a2 a3 a5 a4) else ((fR M p0 7 8).bind fun v3 => (aI M v3 a5).bind fun v4 => (f_X7_isOf M p0 v4 a2).bind fun v5 => if v5 = 0 then (j_X7_asked_69 M p0 a2 a3 a5 a4) else (j_X7_asked_70 M p0 a2 a3 a5 1 a4)))
set_option maxHeartbeats 4000000 in
set_option maxRecDepth 100000 in
theorem b_X7_asked_28 {X : CT} {lim : Nat} {M : MM} {p0 : Nat} {a2 : Int32} {a3 : Int32} {a4 : Int32} {a5 : Int32} (O : OKX X cX7_asked RX7 3 lim 6) (hi : True) (hn : M.1 ≤ lim) {o : (Int32) ⊕ (Int32 × Int32)} (h : z_X7_asked_28 M p0 a2 a3 a4 a5 = some o) (hK : (KI (fun (q : Int32) => RTX X (some .int) (some (.int q)) M) (fun (t : Int32 × Int32) => WS X M 28 [(0, rf X.1 p0), (2, .int a2), (3, .int a3), (4, .int t.1), (5, .int t.2)] [])) o) : WS X M 28 [(0, rf X.1 p0), (2, .int a2), (3, .int a3), (4, .int a4), (5, .int a5)] [] := by
  unfold z_X7_asked_28 at h
  refine s_iload (pc := 28) O dX7_asked_28 4 rfl ?_
  refine s_aload_n (pc := 30) O dX7_asked_30 rfl 0 rfl ?_
  obtain ⟨v1, e, h⟩ := bd h
  refine s_getI (pc := 31) O kc7 (k := 12) rfl tw_683 e dX7_asked_31 ?_
  refine s_icmp_ge (pc := 34) O (tgt := 79) dX7_asked_34 (by decide) (fun c => ?_) (fun c => ?_)
  · have h := ifp c h
    refine s_iload (pc := 79) O dX7_asked_79 3 rfl ?_
    cases h
    exact s_iret (pc := 81) O hK dX7_asked_81
  · have h := ifn c h
    refine s_iload (pc := 37) O dX7_asked_37 3 rfl ?_
    refine s_aload_n (pc := 39) O dX7_asked_39 rfl 0 rfl ?_
    refine s_iload_n (pc := 40) O dX7_asked_40 rfl 2 rfl ?_
    refine s_iload (pc := 41) O dX7_asked_41 4 rfl ?_
    refine s_iconst (pc := 43) O (v := 0) dX7_asked_43 (by decide) ?_
    obtain ⟨v2, e, h⟩ := bd h
    refine s_callVi (pc := 44) O (As := [.int a3, .int a5, .int 0]) kc7 (c_X7_isAnswer (G := X.1) e) cy_X7_isAnswer tw_836 tw_838 tw_34 (by decide) rfl (Nat.le_refl _) hn (r_X7_isAnswer e).1 (r_X7_isAnswer e).2 rfl (Nat.le_of_ble_eq_true rfl) dX7_asked_44 ?_
    refine s_if_eq (pc := 47) O (tgt := 69) dX7_asked_47 (by decide) (fun c => ?_) (fun c => ?_)
    · have h := ifp c h
      exact s_sub (pc := 69) O [0, 1, 2, 4] rfl (g_X7_asked_69 O hi hn h hK)
    · have h := ifn c h
      refine s_aload_n (pc := 50) O dX7_asked_50 rfl 0 rfl ?_
      refine s_aload_n (pc := 51) O dX7_asked_51 rfl 0 rfl ?_
      obtain ⟨v3, e, h⟩ := bd h
      refine s_getR (pc := 52) O kc7 (k := 8) rfl tw_679 e dX7_asked_52 ?_
      refine s_iload (pc := 55) O dX7_asked_55 4 rfl ?_
      obtain ⟨v4, e, h⟩ := bd h
      refine s_aldI (pc := 57) O e dX7_asked_57 ?_
      refine s_iload_n (pc := 58) O dX7_asked_58 rfl 1 rfl ?_
      obtain ⟨v5, e, h⟩ := bd h
      refine s_callVi (pc := 59) O (As := [.int v4, .int a2]) kc7 (c_X7_isOf (G := X.1) e) cy_X7_isOf tw_663 tw_665 tw_21 (by decide) rfl (Nat.le_refl _) hn (r_X7_isOf e).1 (r_X7_isOf e).2 rfl (Nat.le_of_ble_eq_true rfl) dX7_asked_59 ?_
      refine s_if_eq (pc := 62) O (tgt := 69) dX7_asked_62 (by decide) (fun c => ?_) (fun c => ?_)
      · have h := ifp c h
        exact s_sub (pc := 69) O [0, 1, 2, 4] rfl (g_X7_asked_69 O hi hn h hK)
      · have h := ifn c h
        refine s_iconst (pc := 65) O (v := 1) dX7_asked_65 (by decide) ?_
        refine s_goto (pc := 66) O (tgt := 70) dX7_asked_66 (by decide) ?_
        exact s_sub (pc := 70) O [0, 1, 2, 4] rfl (g_X7_asked_70 O hi hn h hK)
set_option maxHeartbeats 4000000 in
set_option maxRecDepth 100000 in
theorem l_X7_asked_28 {X : CT} {lim : Nat} {M : MM} {p0 : Nat} {a2 : Int32} {a3 : Int32} {a4 : Int32} {a5 : Int32} (O : OKX X cX7_asked RX7 3 lim 6) (hi : True) (hn : M.1 ≤ lim) {o : Int32} {n : Nat} (h : lp (fun t => z_X7_asked_28 M p0 a2 a3 t.1 t.2) n (a4, a5) = some o) (hK : (fun (q : Int32) => RTX X (some .int) (some (.int q)) M) o) : WS X M 28 [(0, rf X.1 p0), (2, .int a2), (3, .int a3), (4, .int a4), (5, .int a5)] [] := by
  refine lp_ind (P := fun (o : Int32) (t : Int32 × Int32) => (fun (q : Int32) => RTX X (some .int) (some (.int q)) M) o → WS X M 28 [(0, rf X.1 p0), (2, .int a2), (3, .int a3), (4, .int t.1), (5, .int t.2)] []) (fun t o hs  hK => ?_) n (a4, a5) o h  hK
  rcases hs with h | ⟨u, h, hu⟩
  · exact b_X7_asked_28 O hi hn h hK
  · exact b_X7_asked_28 O hi hn h (show KI _ _ (.inr u) from hu hK)
def f_X7_asked (M : MM) (p0 : Nat) (a1 : Int32) (a2 : Int32) : Option (Int32) :=
  if p0 < M.1 ∧ kd p0 = 7 then ((f_X7_placeOf M p0 a1).bind fun v1 => if v1 = (-9) then (some ((-1))) else ((f_X7_isShape M p0 a2).bind fun v2 => if v2 = 0 then (some ((-1))) else (lp (fun t => z_X7_asked_28 M p0 a2 v1 t.1 t.2) FU (0, 0)))) else none
theorem r_X7_asked {M : MM} {p0 : Nat} {a1 : Int32} {a2 : Int32} {o : Int32} (h : f_X7_asked M p0 a1 a2 = some o) : p0 < M.1 ∧ kd p0 = 7 := by
  unfold f_X7_asked at h
  exact (gd h).1
theorem cy_X7_asked : CallY yX7_asked cX7_asked 6 (some .int) 2 := ⟨by decide +kernel, tw_885, tw_47, by decide⟩
set_option maxHeartbeats 4000000 in
set_option maxRecDepth 100000 in
theorem c_X7_asked {G : GG} {M : MM} {p0 : Nat} {a1 : Int32} {a2 : Int32} {r : Int32} (h : f_X7_asked M p0 a1 a2 = some r) : Ct G yX7_asked cX7_asked 6 (some .int) 3 [rf G p0, .int a1, .int a2] M (some (.int r)) M := by
  refine ct_of (by decide +kernel) (Nat.le_of_ble_eq_true rfl) (fun X hX O hK hi0 => ?_)
  subst hX
  obtain ⟨lim, hlim⟩ : ∃ z, z = M.1 := ⟨_, rfl⟩
  rw [← hlim] at O
  replace O : OKX X cX7_asked RX7 3 lim 6 := O
  have hi : True := trivial
  have hn : M.1 ≤ lim := Nat.le_of_eq hlim.symm
  show WS X M 0 [(0, rf X.1 p0), (1, .int a1), (2, .int a2)] []
  unfold f_X7_asked at h
  obtain ⟨hg0, h⟩ := gd h
  refine s_aload_n (pc := 0) O dX7_asked_0 rfl 0 rfl ?_
  refine s_iload_n (pc := 1) O dX7_asked_1 rfl 1 rfl ?_
  obtain ⟨v1, e, h⟩ := bd h
  refine s_callVi (pc := 2) O (As := [.int a1]) kc7 (c_X7_placeOf (G := X.1) e) cy_X7_placeOf tw_801 tw_803 tw_33 (by decide) rfl (Nat.le_refl _) hn (r_X7_placeOf e).1 (r_X7_placeOf e).2 rfl (Nat.le_of_ble_eq_true rfl) dX7_asked_2 ?_
  refine s_istore_n (pc := 5) O (loc' := [(3, .int v1), (0, rf X.1 p0), (1, .int a1), (2, .int a2)]) dX7_asked_5 rfl (by decide) rfl ?_
  refine s_iload_n (pc := 6) O dX7_asked_6 rfl 0 rfl ?_
  refine s_bipush (pc := 7) O (v := (-9)) dX7_asked_7 (by decide) ?_
  refine s_icmp_eq (pc := 9) O (tgt := 20) dX7_asked_9 (by decide) (fun c => ?_) (fun c => ?_)
  · have h := ifp c h
    refine s_iconst (pc := 20) O (v := (-1)) dX7_asked_20 (by decide) ?_
    cases h
    exact s_iret (pc := 21) O hK dX7_asked_21
  · have h := ifn c h
    refine s_aload_n (pc := 12) O dX7_asked_12 rfl 1 rfl ?_
    refine s_iload_n (pc := 13) O dX7_asked_13 rfl 3 rfl ?_
    obtain ⟨v2, e, h⟩ := bd h
    refine s_callVi (pc := 14) O (As := [.int a2]) kc7 (c_X7_isShape (G := X.1) e) cy_X7_isShape tw_793 tw_795 tw_32 (by decide) rfl (Nat.le_refl _) hn (r_X7_isShape e).1 (r_X7_isShape e).2 rfl (Nat.le_of_ble_eq_true rfl) dX7_asked_14 ?_
    refine s_if_ne (pc := 17) O (tgt := 22) dX7_asked_17 (by decide) (fun c => ?_) (fun c => ?_)
    · have h := ifn c h
      refine s_iconst (pc := 22) O (v := 0) dX7_asked_22 (by decide) ?_
      refine s_istore (pc := 23) O (loc' := [(4, .int 0), (3, .int v1), (0, rf X.1 p0), (1, .int a1), (2, .int a2)]) dX7_asked_23 (by decide) rfl ?_
      refine s_iconst (pc := 25) O (v := 0) dX7_asked_25 (by decide) ?_
      refine s_istore (pc := 26) O (loc' := [(5, .int 0), (4, .int 0), (3, .int v1), (0, rf X.1 p0), (1, .int a1), (2, .int a2)]) dX7_asked_26 (by decide) rfl ?_
      exact s_sub (pc := 28) O [3, 5, 2, 1, 0] rfl (l_X7_asked_28 O hi hn h hK)
    · have h := ifp c h
      refine s_iconst (pc := 20) O (v := (-1)) dX7_asked_20 (by decide) ?_
      cases h
      exact s_iret (pc := 21) O hK dX7_asked_21

def j_X7_bar_158 (M : MM) (a4 : Int32) (a5 : Int32) (a7 : Int32) (s0 : Int32) : Option ((Int32) ⊕ (Int32 × Int32)) :=
  some ((.inr (s0, (a7 + (-1)))))
set_option maxHeartbeats 4000000 in
set_option maxRecDepth 100000 in
theorem g_X7_bar_158 {X : CT} {lim : Nat} {M : MM} {a4 : Int32} {a5 : Int32} {a7 : Int32} {s0 : Int32} (O : OKX X cX7_bar RX7 3 lim 9) (hi : True) (hn : M.1 ≤ lim) {o : (Int32) ⊕ (Int32 × Int32)} (h : j_X7_bar_158 M a4 a5 a7 s0 = some o) (hK : (KI (fun (q : Int32) => RTX X (some .int) (some (.int q)) M) (fun (t : Int32 × Int32) => WS X M 135 [(4, .int a4), (5, .int a5), (6, .int t.1), (7, .int t.2)] [])) o) : WS X M 158 [(4, .int a4), (5, .int a5), (7, .int a7)] [.int s0] := by
  unfold j_X7_bar_158 at h
  refine s_istore (pc := 158) O (loc' := [(6, .int s0), (4, .int a4), (5, .int a5), (7, .int a7)]) dX7_bar_158 (by decide) rfl ?_
  refine s_iinc (pc := 160) O (v := (a7 + (-1))) (loc' := [(7, .int (a7 + (-1))), (6, .int s0), (4, .int a4), (5, .int a5)]) dX7_bar_160 3 rfl rfl (by decide) rfl ?_
  refine s_goto (pc := 163) O (tgt := 135) dX7_bar_163 (by decide) ?_
  cases h
  exact s_sub (pc := 135) O [2, 3, 1, 0] rfl hK
def z_X7_bar_135 (M : MM) (a4 : Int32) (a5 : Int32) (a6 : Int32) (a7 : Int32) : Option ((Int32) ⊕ (Int32 × Int32)) :=
  if a7 < 0 then ((if a5 = 0 then (some ((-5))) else (some a6)).map .inl) else (if ((a4 >>> (a7 &&& 31)) &&& 1) = 1 then (j_X7_bar_158 M a4 a5 a7 a7) else (j_X7_bar_158 M a4 a5 a7 a6))
set_option maxHeartbeats 4000000 in
set_option maxRecDepth 100000 in
theorem b_X7_bar_135 {X : CT} {lim : Nat} {M : MM} {a4 : Int32} {a5 : Int32} {a6 : Int32} {a7 : Int32} (O : OKX X cX7_bar RX7 3 lim 9) (hi : True) (hn : M.1 ≤ lim) {o : (Int32) ⊕ (Int32 × Int32)} (h : z_X7_bar_135 M a4 a5 a6 a7 = some o) (hK : (KI (fun (q : Int32) => RTX X (some .int) (some (.int q)) M) (fun (t : Int32 × Int32) => WS X M 135 [(4, .int a4), (5, .int a5), (6, .int t.1), (7, .int t.2)] [])) o) : WS X M 135 [(4, .int a4), (5, .int a5), (6, .int a6), (7, .int a7)] [] := by
  unfold z_X7_bar_135 at h
  refine s_iload (pc := 135) O dX7_bar_135 3 rfl ?_
  refine s_if_lt (pc := 137) O (tgt := 166) dX7_bar_137 (by decide) (fun c => ?_) (fun c => ?_)
  · have h := ifp c h
    obtain ⟨q0, hq0, ho0⟩ := mpi h; subst ho0; replace h := hq0
    refine s_iload (pc := 166) O dX7_bar_166 1 rfl ?_
    refine s_if_ne (pc := 168) O (tgt := 176) dX7_bar_168 (by decide) (fun c => ?_) (fun c => ?_)
    · have h := ifn c h
      refine s_iload (pc := 176) O dX7_bar_176 2 rfl ?_
      cases h
      exact s_iret (pc := 178) O hK dX7_bar_178
    · have h := ifp c h
      refine s_bipush (pc := 171) O (v := (-5)) dX7_bar_171 (by decide) ?_
      refine s_goto (pc := 173) O (tgt := 178) dX7_bar_173 (by decide) ?_
      cases h
      exact s_iret (pc := 178) O hK dX7_bar_178
  · have h := ifn c h
    refine s_iload (pc := 140) O dX7_bar_140 0 rfl ?_
    refine s_iload (pc := 142) O dX7_bar_142 3 rfl ?_
    refine s_ishr (pc := 144) O dX7_bar_144 ?_
    refine s_iconst (pc := 145) O (v := 1) dX7_bar_145 (by decide) ?_
    refine s_iand (pc := 146) O dX7_bar_146 ?_
    refine s_iconst (pc := 147) O (v := 1) dX7_bar_147 (by decide) ?_
    refine s_icmp_ne (pc := 148) O (tgt := 156) dX7_bar_148 (by decide) (fun c => ?_) (fun c => ?_)
    · have h := ifn c h
      refine s_iload (pc := 156) O dX7_bar_156 2 rfl ?_
      exact s_sub (pc := 158) O [0, 1, 3] rfl (g_X7_bar_158 O hi hn h hK)
    · have h := ifp c h
      refine s_iload (pc := 151) O dX7_bar_151 3 rfl ?_
      refine s_goto (pc := 153) O (tgt := 158) dX7_bar_153 (by decide) ?_
      exact s_sub (pc := 158) O [0, 1, 3] rfl (g_X7_bar_158 O hi hn h hK)
set_option maxHeartbeats 4000000 in
set_option maxRecDepth 100000 in
theorem l_X7_bar_135 {X : CT} {lim : Nat} {M : MM} {a4 : Int32} {a5 : Int32} {a6 : Int32} {a7 : Int32} (O : OKX X cX7_bar RX7 3 lim 9) (hi : True) (hn : M.1 ≤ lim) {o : Int32} {n : Nat} (h : lp (fun t => z_X7_bar_135 M a4 a5 t.1 t.2) n (a6, a7) = some o) (hK : (fun (q : Int32) => RTX X (some .int) (some (.int q)) M) o) : WS X M 135 [(4, .int a4), (5, .int a5), (6, .int a6), (7, .int a7)] [] := by
  refine lp_ind (P := fun (o : Int32) (t : Int32 × Int32) => (fun (q : Int32) => RTX X (some .int) (some (.int q)) M) o → WS X M 135 [(4, .int a4), (5, .int a5), (6, .int t.1), (7, .int t.2)] []) (fun t o hs  hK => ?_) n (a6, a7) o h  hK
  rcases hs with h | ⟨u, h, hu⟩
  · exact b_X7_bar_135 O hi hn h hK
  · exact b_X7_bar_135 O hi hn h (show KI _ _ (.inr u) from hu hK)
def j_X7_bar_121 (M : MM) (p0 : Nat) (a2 : Int32) (a3 : Int32) (a4 : Int32) (a5 : Int32) (a6 : Int32) : Option ((Int32) ⊕ (Int32 × Int32 × Int32)) :=
  some ((.inr (a4, a5, (a6 + 1))))
set_option maxHeartbeats 4000000 in
set_option maxRecDepth 100000 in
theorem g_X7_bar_121 {X : CT} {lim : Nat} {M : MM} {p0 : Nat} {a2 : Int32} {a3 : Int32} {a4 : Int32} {a5 : Int32} {a6 : Int32} (O : OKX X cX7_bar RX7 3 lim 9) (hi : True) (hn : M.1 ≤ lim) {o : (Int32) ⊕ (Int32 × Int32 × Int32)} (h : j_X7_bar_121 M p0 a2 a3 a4 a5 a6 = some o) (hK : (KI (fun (q : Int32) => RTX X (some .int) (some (.int q)) M) (fun (t : Int32 × Int32 × Int32) => WS X M 34 [(0, rf X.1 p0), (2, .int a2), (3, .int a3), (4, .int t.1), (5, .int t.2.1), (6, .int t.2.2)] [])) o) : WS X M 121 [(0, rf X.1 p0), (2, .int a2), (3, .int a3), (4, .int a4), (5, .int a5), (6, .int a6)] [] := by
  unfold j_X7_bar_121 at h
  refine s_iinc (pc := 121) O (v := (a6 + 1)) (loc' := [(6, .int (a6 + 1)), (0, rf X.1 p0), (2, .int a2), (3, .int a3), (4, .int a4), (5, .int a5)]) dX7_bar_121 5 rfl rfl (by decide) rfl ?_
  refine s_goto (pc := 124) O (tgt := 34) dX7_bar_124 (by decide) ?_
  cases h
  exact s_sub (pc := 34) O [1, 2, 3, 4, 5, 0] rfl hK
def j_X7_bar_112 (M : MM) (p0 : Nat) (a2 : Int32) (a3 : Int32) (a5 : Int32) (a6 : Int32) (a7 : Int32) (a8 : Int32) (s0 : Int32) (s1 : Int32) : Option (((Int32) ⊕ (Int32 × Int32 × Int32)) ⊕ (Int32 × Int32)) :=
  some ((.inr ((s1 &&& s0), (a8 + 1))))
set_option maxHeartbeats 4000000 in
set_option maxRecDepth 100000 in
theorem g_X7_bar_112 {X : CT} {lim : Nat} {M : MM} {p0 : Nat} {a2 : Int32} {a3 : Int32} {a5 : Int32} {a6 : Int32} {a7 : Int32} {a8 : Int32} {s0 : Int32} {s1 : Int32} (O : OKX X cX7_bar RX7 3 lim 9) (hi : True) (hn : M.1 ≤ lim) {o : ((Int32) ⊕ (Int32 × Int32 × Int32)) ⊕ (Int32 × Int32)} (h : j_X7_bar_112 M p0 a2 a3 a5 a6 a7 a8 s0 s1 = some o) (hK : (KI (KI (fun (q : Int32) => RTX X (some .int) (some (.int q)) M) (fun (t : Int32 × Int32 × Int32) => WS X M 34 [(0, rf X.1 p0), (2, .int a2), (3, .int a3), (4, .int t.1), (5, .int t.2.1), (6, .int t.2.2)] [])) (fun (t : Int32 × Int32) => WS X M 71 [(0, rf X.1 p0), (2, .int a2), (3, .int a3), (4, .int t.1), (5, .int a5), (6, .int a6), (7, .int a7), (8, .int t.2)] [])) o) : WS X M 112 [(0, rf X.1 p0), (2, .int a2), (3, .int a3), (5, .int a5), (6, .int a6), (7, .int a7), (8, .int a8)] [.int s0, .int s1] := by
  unfold j_X7_bar_112 at h
  refine s_iand (pc := 112) O dX7_bar_112 ?_
  refine s_istore (pc := 113) O (loc' := [(4, .int (s1 &&& s0)), (0, rf X.1 p0), (2, .int a2), (3, .int a3), (5, .int a5), (6, .int a6), (7, .int a7), (8, .int a8)]) dX7_bar_113 (by decide) rfl ?_
  refine s_iinc (pc := 115) O (v := (a8 + 1)) (loc' := [(8, .int (a8 + 1)), (4, .int (s1 &&& s0)), (0, rf X.1 p0), (2, .int a2), (3, .int a3), (5, .int a5), (6, .int a6), (7, .int a7)]) dX7_bar_115 7 rfl rfl (by decide) rfl ?_
  refine s_goto (pc := 118) O (tgt := 71) dX7_bar_118 (by decide) ?_
  cases h
  exact s_sub (pc := 71) O [2, 3, 4, 1, 5, 6, 7, 0] rfl hK
def z_X7_bar_71 (M : MM) (p0 : Nat) (a2 : Int32) (a3 : Int32) (a5 : Int32) (a6 : Int32) (a7 : Int32) (a4 : Int32) (a8 : Int32) : Option (((Int32) ⊕ (Int32 × Int32 × Int32)) ⊕ (Int32 × Int32)) :=
  if (8 : Int32) ≤ a8 then ((j_X7_bar_121 M p0 a2 a3 a4 a5 a6).map .inl) else (if a7 = 0 then ((j_X7_bar_121 M p0 a2 a3 a4 a5 a6).map .inl) else ((fR M p0 7 9).bind fun v1 => (aI M v1 a6).bind fun v2 => (f_X7_countOf M v2 a8).bind fun v3 => if v3 ≤ 0 then (j_X7_bar_112 M p0 a2 a3 a5 a6 a7 a8 (((1 <<< (a8 &&& 31)) ^^^ (-1))) a4) else (j_X7_bar_112 M p0 a2 a3 a5 a6 a7 a8 255 a4)))
set_option maxHeartbeats 4000000 in
set_option maxRecDepth 100000 in
theorem b_X7_bar_71 {X : CT} {lim : Nat} {M : MM} {p0 : Nat} {a2 : Int32} {a3 : Int32} {a5 : Int32} {a6 : Int32} {a7 : Int32} {a4 : Int32} {a8 : Int32} (O : OKX X cX7_bar RX7 3 lim 9) (hi : True) (hn : M.1 ≤ lim) {o : ((Int32) ⊕ (Int32 × Int32 × Int32)) ⊕ (Int32 × Int32)} (h : z_X7_bar_71 M p0 a2 a3 a5 a6 a7 a4 a8 = some o) (hK : (KI (KI (fun (q : Int32) => RTX X (some .int) (some (.int q)) M) (fun (t : Int32 × Int32 × Int32) => WS X M 34 [(0, rf X.1 p0), (2, .int a2), (3, .int a3), (4, .int t.1), (5, .int t.2.1), (6, .int t.2.2)] [])) (fun (t : Int32 × Int32) => WS X M 71 [(0, rf X.1 p0), (2, .int a2), (3, .int a3), (4, .int t.1), (5, .int a5), (6, .int a6), (7, .int a7), (8, .int t.2)] [])) o) : WS X M 71 [(0, rf X.1 p0), (2, .int a2), (3, .int a3), (4, .int a4), (5, .int a5), (6, .int a6), (7, .int a7), (8, .int a8)] [] := by
  unfold z_X7_bar_71 at h
  refine s_iload (pc := 71) O dX7_bar_71 7 rfl ?_
  refine s_bipush (pc := 73) O (v := 8) dX7_bar_73 (by decide) ?_
  refine s_icmp_ge (pc := 75) O (tgt := 121) dX7_bar_75 (by decide) (fun c => ?_) (fun c => ?_)
  · have h := ifp c h
    obtain ⟨q0, hq0, ho0⟩ := mpi h; subst ho0; replace h := hq0
    exact s_sub (pc := 121) O [0, 1, 2, 3, 4, 5] rfl (g_X7_bar_121 O hi hn h hK)
  · have h := ifn c h
    refine s_iload (pc := 78) O dX7_bar_78 6 rfl ?_
    refine s_if_eq (pc := 80) O (tgt := 121) dX7_bar_80 (by decide) (fun c => ?_) (fun c => ?_)
    · have h := ifp c h
      obtain ⟨q0, hq0, ho0⟩ := mpi h; subst ho0; replace h := hq0
      exact s_sub (pc := 121) O [0, 1, 2, 3, 4, 5] rfl (g_X7_bar_121 O hi hn h hK)
    · have h := ifn c h
      refine s_iload (pc := 83) O dX7_bar_83 3 rfl ?_
      refine s_aload_n (pc := 85) O dX7_bar_85 rfl 0 rfl ?_
      obtain ⟨v1, e, h⟩ := bd h
      refine s_getR (pc := 86) O kc7 (k := 9) rfl tw_680 e dX7_bar_86 ?_
      refine s_iload (pc := 89) O dX7_bar_89 5 rfl ?_
      obtain ⟨v2, e, h⟩ := bd h
      refine s_aldI (pc := 91) O e dX7_bar_91 ?_
      refine s_iload (pc := 92) O dX7_bar_92 7 rfl ?_
      obtain ⟨v3, e, h⟩ := bd h
      refine s_callSi (pc := 94) O (As := [.int v2, .int a8]) (c_X7_countOf (G := X.1) e) cy_X7_countOf tw_805 tw_806 (by decide) rfl (Nat.le_refl _) hn rfl (Nat.le_of_ble_eq_true rfl) dX7_bar_94 ?_
      refine s_if_le (pc := 97) O (tgt := 106) dX7_bar_97 (by decide) (fun c => ?_) (fun c => ?_)
      · have h := ifp c h
        refine s_iconst (pc := 106) O (v := 1) dX7_bar_106 (by decide) ?_
        refine s_iload (pc := 107) O dX7_bar_107 7 rfl ?_
        refine s_ishl (pc := 109) O dX7_bar_109 ?_
        refine s_iconst (pc := 110) O (v := (-1)) dX7_bar_110 (by decide) ?_
        refine s_ixor (pc := 111) O dX7_bar_111 ?_
        exact s_sub (pc := 112) O [0, 1, 2, 4, 5, 6, 7] rfl (g_X7_bar_112 O hi hn h hK)
      · have h := ifn c h
        refine s_sipush (pc := 100) O (v := 255) dX7_bar_100 (by decide) ?_
        refine s_goto (pc := 103) O (tgt := 112) dX7_bar_103 (by decide) ?_
        exact s_sub (pc := 112) O [0, 1, 2, 4, 5, 6, 7] rfl (g_X7_bar_112 O hi hn h hK)
set_option maxHeartbeats 4000000 in
set_option maxRecDepth 100000 in
theorem l_X7_bar_71 {X : CT} {lim : Nat} {M : MM} {p0 : Nat} {a2 : Int32} {a3 : Int32} {a5 : Int32} {a6 : Int32} {a7 : Int32} {a4 : Int32} {a8 : Int32} (O : OKX X cX7_bar RX7 3 lim 9) (hi : True) (hn : M.1 ≤ lim) {o : (Int32) ⊕ (Int32 × Int32 × Int32)} {n : Nat} (h : lp (fun t => z_X7_bar_71 M p0 a2 a3 a5 a6 a7 t.1 t.2) n (a4, a8) = some o) (hK : (KI (fun (q : Int32) => RTX X (some .int) (some (.int q)) M) (fun (t : Int32 × Int32 × Int32) => WS X M 34 [(0, rf X.1 p0), (2, .int a2), (3, .int a3), (4, .int t.1), (5, .int t.2.1), (6, .int t.2.2)] [])) o) : WS X M 71 [(0, rf X.1 p0), (2, .int a2), (3, .int a3), (4, .int a4), (5, .int a5), (6, .int a6), (7, .int a7), (8, .int a8)] [] := by
  refine lp_ind (P := fun (o : (Int32) ⊕ (Int32 × Int32 × Int32)) (t : Int32 × Int32) => (KI (fun (q : Int32) => RTX X (some .int) (some (.int q)) M) (fun (t : Int32 × Int32 × Int32) => WS X M 34 [(0, rf X.1 p0), (2, .int a2), (3, .int a3), (4, .int t.1), (5, .int t.2.1), (6, .int t.2.2)] [])) o → WS X M 71 [(0, rf X.1 p0), (2, .int a2), (3, .int a3), (4, .int t.1), (5, .int a5), (6, .int a6), (7, .int a7), (8, .int t.2)] []) (fun t o hs  hK => ?_) n (a4, a8) o h  hK
  rcases hs with h | ⟨u, h, hu⟩
  · exact b_X7_bar_71 O hi hn h hK
  · exact b_X7_bar_71 O hi hn h (show KI _ _ (.inr u) from hu hK)
def j_X7_bar_65 (M : MM) (p0 : Nat) (a2 : Int32) (a3 : Int32) (a4 : Int32) (a6 : Int32) (a7 : Int32) (s0 : Int32) (s1 : Int32) : Option ((Int32) ⊕ (Int32 × Int32 × Int32)) :=
  lp (fun t => z_X7_bar_71 M p0 a2 a3 ((s1 + s0)) a6 a7 t.1 t.2) FU (a4, 0)
set_option maxHeartbeats 4000000 in
set_option maxRecDepth 100000 in
theorem g_X7_bar_65 {X : CT} {lim : Nat} {M : MM} {p0 : Nat} {a2 : Int32} {a3 : Int32} {a4 : Int32} {a6 : Int32} {a7 : Int32} {s0 : Int32} {s1 : Int32} (O : OKX X cX7_bar RX7 3 lim 9) (hi : True) (hn : M.1 ≤ lim) {o : (Int32) ⊕ (Int32 × Int32 × Int32)} (h : j_X7_bar_65 M p0 a2 a3 a4 a6 a7 s0 s1 = some o) (hK : (KI (fun (q : Int32) => RTX X (some .int) (some (.int q)) M) (fun (t : Int32 × Int32 × Int32) => WS X M 34 [(0, rf X.1 p0), (2, .int a2), (3, .int a3), (4, .int t.1), (5, .int t.2.1), (6, .int t.2.2)] [])) o) : WS X M 65 [(0, rf X.1 p0), (2, .int a2), (3, .int a3), (4, .int a4), (6, .int a6), (7, .int a7)] [.int s0, .int s1] := by
  unfold j_X7_bar_65 at h
  refine s_iadd (pc := 65) O dX7_bar_65 ?_
  refine s_istore (pc := 66) O (loc' := [(5, .int (s1 + s0)), (0, rf X.1 p0), (2, .int a2), (3, .int a3), (4, .int a4), (6, .int a6), (7, .int a7)]) dX7_bar_66 (by decide) rfl ?_
  refine s_iconst (pc := 68) O (v := 0) dX7_bar_68 (by decide) ?_
  refine s_istore (pc := 69) O (loc' := [(8, .int 0), (5, .int (s1 + s0)), (0, rf X.1 p0), (2, .int a2), (3, .int a3), (4, .int a4), (6, .int a6), (7, .int a7)]) dX7_bar_69 (by decide) rfl ?_
  exact s_sub (pc := 71) O [2, 3, 4, 5, 1, 6, 7, 0] rfl (l_X7_bar_71 O hi hn h hK)
def z_X7_bar_34 (M : MM) (p0 : Nat) (a2 : Int32) (a3 : Int32) (a4 : Int32) (a5 : Int32) (a6 : Int32) : Option ((Int32) ⊕ (Int32 × Int32 × Int32)) :=
  (fI M p0 7 12).bind fun v1 => if v1 ≤ a6 then ((lp (fun t => z_X7_bar_135 M a4 a5 t.1 t.2) FU ((-9), 7)).map .inl) else ((f_X7_isAnswer M p0 a3 a6 a2).bind fun v2 => if v2 = 0 then (j_X7_bar_65 M p0 a2 a3 a4 a6 v2 0 a5) else (j_X7_bar_65 M p0 a2 a3 a4 a6 v2 1 a5))
set_option maxHeartbeats 4000000 in
set_option maxRecDepth 100000 in
theorem b_X7_bar_34 {X : CT} {lim : Nat} {M : MM} {p0 : Nat} {a2 : Int32} {a3 : Int32} {a4 : Int32} {a5 : Int32} {a6 : Int32} (O : OKX X cX7_bar RX7 3 lim 9) (hi : True) (hn : M.1 ≤ lim) {o : (Int32) ⊕ (Int32 × Int32 × Int32)} (h : z_X7_bar_34 M p0 a2 a3 a4 a5 a6 = some o) (hK : (KI (fun (q : Int32) => RTX X (some .int) (some (.int q)) M) (fun (t : Int32 × Int32 × Int32) => WS X M 34 [(0, rf X.1 p0), (2, .int a2), (3, .int a3), (4, .int t.1), (5, .int t.2.1), (6, .int t.2.2)] [])) o) : WS X M 34 [(0, rf X.1 p0), (2, .int a2), (3, .int a3), (4, .int a4), (5, .int a5), (6, .int a6)] [] := by
  unfold z_X7_bar_34 at h
  refine s_iload (pc := 34) O dX7_bar_34 5 rfl ?_
  refine s_aload_n (pc := 36) O dX7_bar_36 rfl 0 rfl ?_
  obtain ⟨v1, e, h⟩ := bd h
  refine s_getI (pc := 37) O kc7 (k := 12) rfl tw_683 e dX7_bar_37 ?_
  refine s_icmp_ge (pc := 40) O (tgt := 127) dX7_bar_40 (by decide) (fun c => ?_) (fun c => ?_)
  · have h := ifp c h
    obtain ⟨q0, hq0, ho0⟩ := mpi h; subst ho0; replace h := hq0
    refine s_bipush (pc := 127) O (v := (-9)) dX7_bar_127 (by decide) ?_
    refine s_istore (pc := 129) O (loc' := [(6, .int (-9)), (0, rf X.1 p0), (2, .int a2), (3, .int a3), (4, .int a4), (5, .int a5)]) dX7_bar_129 (by decide) rfl ?_
    refine s_bipush (pc := 131) O (v := 7) dX7_bar_131 (by decide) ?_
    refine s_istore (pc := 133) O (loc' := [(7, .int 7), (6, .int (-9)), (0, rf X.1 p0), (2, .int a2), (3, .int a3), (4, .int a4), (5, .int a5)]) dX7_bar_133 (by decide) rfl ?_
    exact s_sub (pc := 135) O [5, 6, 1, 0] rfl (l_X7_bar_135 O hi hn h hK)
  · have h := ifn c h
    refine s_aload_n (pc := 43) O dX7_bar_43 rfl 0 rfl ?_
    refine s_iload_n (pc := 44) O dX7_bar_44 rfl 2 rfl ?_
    refine s_iload (pc := 45) O dX7_bar_45 5 rfl ?_
    refine s_iload_n (pc := 47) O dX7_bar_47 rfl 1 rfl ?_
    obtain ⟨v2, e, h⟩ := bd h
    refine s_callVi (pc := 48) O (As := [.int a3, .int a6, .int a2]) kc7 (c_X7_isAnswer (G := X.1) e) cy_X7_isAnswer tw_836 tw_838 tw_34 (by decide) rfl (Nat.le_refl _) hn (r_X7_isAnswer e).1 (r_X7_isAnswer e).2 rfl (Nat.le_of_ble_eq_true rfl) dX7_bar_48 ?_
    refine s_istore (pc := 51) O (loc' := [(7, .int v2), (0, rf X.1 p0), (2, .int a2), (3, .int a3), (4, .int a4), (5, .int a5), (6, .int a6)]) dX7_bar_51 (by decide) rfl ?_
    refine s_iload (pc := 53) O dX7_bar_53 5 rfl ?_
    refine s_iload (pc := 55) O dX7_bar_55 0 rfl ?_
    refine s_if_eq (pc := 57) O (tgt := 64) dX7_bar_57 (by decide) (fun c => ?_) (fun c => ?_)
    · have h := ifp c h
      refine s_iconst (pc := 64) O (v := 0) dX7_bar_64 (by decide) ?_
      exact s_sub (pc := 65) O [1, 2, 3, 4, 6, 0] rfl (g_X7_bar_65 O hi hn h hK)
    · have h := ifn c h
      refine s_iconst (pc := 60) O (v := 1) dX7_bar_60 (by decide) ?_
      refine s_goto (pc := 61) O (tgt := 65) dX7_bar_61 (by decide) ?_
      exact s_sub (pc := 65) O [1, 2, 3, 4, 6, 0] rfl (g_X7_bar_65 O hi hn h hK)
set_option maxHeartbeats 4000000 in
set_option maxRecDepth 100000 in
theorem l_X7_bar_34 {X : CT} {lim : Nat} {M : MM} {p0 : Nat} {a2 : Int32} {a3 : Int32} {a4 : Int32} {a5 : Int32} {a6 : Int32} (O : OKX X cX7_bar RX7 3 lim 9) (hi : True) (hn : M.1 ≤ lim) {o : Int32} {n : Nat} (h : lp (fun t => z_X7_bar_34 M p0 a2 a3 t.1 t.2.1 t.2.2) n (a4, a5, a6) = some o) (hK : (fun (q : Int32) => RTX X (some .int) (some (.int q)) M) o) : WS X M 34 [(0, rf X.1 p0), (2, .int a2), (3, .int a3), (4, .int a4), (5, .int a5), (6, .int a6)] [] := by
  refine lp_ind (P := fun (o : Int32) (t : Int32 × Int32 × Int32) => (fun (q : Int32) => RTX X (some .int) (some (.int q)) M) o → WS X M 34 [(0, rf X.1 p0), (2, .int a2), (3, .int a3), (4, .int t.1), (5, .int t.2.1), (6, .int t.2.2)] []) (fun t o hs  hK => ?_) n (a4, a5, a6) o h  hK
  rcases hs with h | ⟨u, h, hu⟩
  · exact b_X7_bar_34 O hi hn h hK
  · exact b_X7_bar_34 O hi hn h (show KI _ _ (.inr u) from hu hK)
def f_X7_bar (M : MM) (p0 : Nat) (a1 : Int32) (a2 : Int32) : Option (Int32) :=
  if p0 < M.1 ∧ kd p0 = 7 then ((f_X7_placeOf M p0 a1).bind fun v1 => if v1 = (-9) then (some ((-1))) else ((f_X7_in M a2 0 2).bind fun v2 => if v2 = 0 then (some ((-1))) else (lp (fun t => z_X7_bar_34 M p0 a2 v1 t.1 t.2.1 t.2.2) FU (255, 0, 0)))) else none
theorem r_X7_bar {M : MM} {p0 : Nat} {a1 : Int32} {a2 : Int32} {o : Int32} (h : f_X7_bar M p0 a1 a2 = some o) : p0 < M.1 ∧ kd p0 = 7 := by
  unfold f_X7_bar at h
  exact (gd h).1
theorem cy_X7_bar : CallY yX7_bar cX7_bar 9 (some .int) 2 := ⟨by decide +kernel, tw_858, tw_47, by decide⟩
set_option maxHeartbeats 4000000 in
set_option maxRecDepth 100000 in
theorem c_X7_bar {G : GG} {M : MM} {p0 : Nat} {a1 : Int32} {a2 : Int32} {r : Int32} (h : f_X7_bar M p0 a1 a2 = some r) : Ct G yX7_bar cX7_bar 9 (some .int) 3 [rf G p0, .int a1, .int a2] M (some (.int r)) M := by
  refine ct_of (by decide +kernel) (Nat.le_of_ble_eq_true rfl) (fun X hX O hK hi0 => ?_)
  subst hX
  obtain ⟨lim, hlim⟩ : ∃ z, z = M.1 := ⟨_, rfl⟩
  rw [← hlim] at O
  replace O : OKX X cX7_bar RX7 3 lim 9 := O
  have hi : True := trivial
  have hn : M.1 ≤ lim := Nat.le_of_eq hlim.symm
  show WS X M 0 [(0, rf X.1 p0), (1, .int a1), (2, .int a2)] []
  unfold f_X7_bar at h
  obtain ⟨hg0, h⟩ := gd h
  refine s_aload_n (pc := 0) O dX7_bar_0 rfl 0 rfl ?_
  refine s_iload_n (pc := 1) O dX7_bar_1 rfl 1 rfl ?_
  obtain ⟨v1, e, h⟩ := bd h
  refine s_callVi (pc := 2) O (As := [.int a1]) kc7 (c_X7_placeOf (G := X.1) e) cy_X7_placeOf tw_801 tw_803 tw_33 (by decide) rfl (Nat.le_refl _) hn (r_X7_placeOf e).1 (r_X7_placeOf e).2 rfl (Nat.le_of_ble_eq_true rfl) dX7_bar_2 ?_
  refine s_istore_n (pc := 5) O (loc' := [(3, .int v1), (0, rf X.1 p0), (1, .int a1), (2, .int a2)]) dX7_bar_5 rfl (by decide) rfl ?_
  refine s_iload_n (pc := 6) O dX7_bar_6 rfl 0 rfl ?_
  refine s_bipush (pc := 7) O (v := (-9)) dX7_bar_7 (by decide) ?_
  refine s_icmp_eq (pc := 9) O (tgt := 21) dX7_bar_9 (by decide) (fun c => ?_) (fun c => ?_)
  · have h := ifp c h
    refine s_iconst (pc := 21) O (v := (-1)) dX7_bar_21 (by decide) ?_
    cases h
    exact s_iret (pc := 22) O hK dX7_bar_22
  · have h := ifn c h
    refine s_iload_n (pc := 12) O dX7_bar_12 rfl 3 rfl ?_
    refine s_iconst (pc := 13) O (v := 0) dX7_bar_13 (by decide) ?_
    refine s_iconst (pc := 14) O (v := 2) dX7_bar_14 (by decide) ?_
    obtain ⟨v2, e, h⟩ := bd h
    refine s_callSi (pc := 15) O (As := [.int a2, .int 0, .int 2]) (c_X7_in (G := X.1) e) cy_X7_in tw_660 tw_661 (by decide) rfl (Nat.le_refl _) hn rfl (Nat.le_of_ble_eq_true rfl) dX7_bar_15 ?_
    refine s_if_ne (pc := 18) O (tgt := 23) dX7_bar_18 (by decide) (fun c => ?_) (fun c => ?_)
    · have h := ifn c h
      refine s_sipush (pc := 23) O (v := 255) dX7_bar_23 (by decide) ?_
      refine s_istore (pc := 26) O (loc' := [(4, .int 255), (3, .int v1), (0, rf X.1 p0), (1, .int a1), (2, .int a2)]) dX7_bar_26 (by decide) rfl ?_
      refine s_iconst (pc := 28) O (v := 0) dX7_bar_28 (by decide) ?_
      refine s_istore (pc := 29) O (loc' := [(5, .int 0), (4, .int 255), (3, .int v1), (0, rf X.1 p0), (1, .int a1), (2, .int a2)]) dX7_bar_29 (by decide) rfl ?_
      refine s_iconst (pc := 31) O (v := 0) dX7_bar_31 (by decide) ?_
      refine s_istore (pc := 32) O (loc' := [(6, .int 0), (5, .int 0), (4, .int 255), (3, .int v1), (0, rf X.1 p0), (1, .int a1), (2, .int a2)]) dX7_bar_32 (by decide) rfl ?_
      exact s_sub (pc := 34) O [4, 6, 3, 2, 1, 0] rfl (l_X7_bar_34 O hi hn h hK)
    · have h := ifp c h
      refine s_iconst (pc := 21) O (v := (-1)) dX7_bar_21 (by decide) ?_
      cases h
      exact s_iret (pc := 22) O hK dX7_bar_22

def j_X7_bestOf_62 (M : MM) (p0 : Nat) (a1 : Int32) (a2 : Int32) (a4 : Int32) (s0 : Int32) : Option ((Int32) ⊕ (Int32 × Int32)) :=
  some ((.inr (s0, (a4 + 1))))
set_option maxHeartbeats 4000000 in
set_option maxRecDepth 100000 in
theorem g_X7_bestOf_62 {X : CT} {lim : Nat} {M : MM} {p0 : Nat} {a1 : Int32} {a2 : Int32} {a4 : Int32} {s0 : Int32} (O : OKX X cX7_bestOf RX7 3 lim 5) (hi : True) (hn : M.1 ≤ lim) {o : (Int32) ⊕ (Int32 × Int32)} (h : j_X7_bestOf_62 M p0 a1 a2 a4 s0 = some o) (hK : (KI (fun (q : Int32) => RTX X (some .int) (some (.int q)) M) (fun (t : Int32 × Int32) => WS X M 6 [(0, rf X.1 p0), (1, .int a1), (2, .int a2), (3, .int t.1), (4, .int t.2)] [])) o) : WS X M 62 [(0, rf X.1 p0), (1, .int a1), (2, .int a2), (4, .int a4)] [.int s0] := by
  unfold j_X7_bestOf_62 at h
  refine s_istore_n (pc := 62) O (loc' := [(3, .int s0), (0, rf X.1 p0), (1, .int a1), (2, .int a2), (4, .int a4)]) dX7_bestOf_62 rfl (by decide) rfl ?_
  refine s_iinc (pc := 63) O (v := (a4 + 1)) (loc' := [(4, .int (a4 + 1)), (3, .int s0), (0, rf X.1 p0), (1, .int a1), (2, .int a2)]) dX7_bestOf_63 4 rfl rfl (by decide) rfl ?_
  refine s_goto (pc := 66) O (tgt := 6) dX7_bestOf_66 (by decide) ?_
  cases h
  exact s_sub (pc := 6) O [2, 3, 4, 1, 0] rfl hK
def j_X7_bestOf_61 (M : MM) (p0 : Nat) (a1 : Int32) (a2 : Int32) (a3 : Int32) (a4 : Int32) : Option ((Int32) ⊕ (Int32 × Int32)) :=
  j_X7_bestOf_62 M p0 a1 a2 a4 a3
set_option maxHeartbeats 4000000 in
set_option maxRecDepth 100000 in
theorem g_X7_bestOf_61 {X : CT} {lim : Nat} {M : MM} {p0 : Nat} {a1 : Int32} {a2 : Int32} {a3 : Int32} {a4 : Int32} (O : OKX X cX7_bestOf RX7 3 lim 5) (hi : True) (hn : M.1 ≤ lim) {o : (Int32) ⊕ (Int32 × Int32)} (h : j_X7_bestOf_61 M p0 a1 a2 a3 a4 = some o) (hK : (KI (fun (q : Int32) => RTX X (some .int) (some (.int q)) M) (fun (t : Int32 × Int32) => WS X M 6 [(0, rf X.1 p0), (1, .int a1), (2, .int a2), (3, .int t.1), (4, .int t.2)] [])) o) : WS X M 61 [(0, rf X.1 p0), (1, .int a1), (2, .int a2), (3, .int a3), (4, .int a4)] [] := by
  unfold j_X7_bestOf_61 at h
  refine s_iload_n (pc := 61) O dX7_bestOf_61 rfl 3 rfl ?_
  exact s_sub (pc := 62) O [0, 1, 2, 4] rfl (g_X7_bestOf_62 O hi hn h hK)
def j_X7_bestOf_56 (M : MM) (p0 : Nat) (a1 : Int32) (a2 : Int32) (a4 : Int32) : Option ((Int32) ⊕ (Int32 × Int32)) :=
  j_X7_bestOf_62 M p0 a1 a2 a4 a4
set_option maxHeartbeats 4000000 in
set_option maxRecDepth 100000 in
theorem g_X7_bestOf_56 {X : CT} {lim : Nat} {M : MM} {p0 : Nat} {a1 : Int32} {a2 : Int32} {a4 : Int32} (O : OKX X cX7_bestOf RX7 3 lim 5) (hi : True) (hn : M.1 ≤ lim) {o : (Int32) ⊕ (Int32 × Int32)} (h : j_X7_bestOf_56 M p0 a1 a2 a4 = some o) (hK : (KI (fun (q : Int32) => RTX X (some .int) (some (.int q)) M) (fun (t : Int32 × Int32) => WS X M 6 [(0, rf X.1 p0), (1, .int a1), (2, .int a2), (3, .int t.1), (4, .int t.2)] [])) o) : WS X M 56 [(0, rf X.1 p0), (1, .int a1), (2, .int a2), (4, .int a4)] [] := by
  unfold j_X7_bestOf_56 at h
  refine s_iload (pc := 56) O dX7_bestOf_56 3 rfl ?_
  refine s_goto (pc := 58) O (tgt := 62) dX7_bestOf_58 (by decide) ?_
  exact s_sub (pc := 62) O [0, 1, 2, 3] rfl (g_X7_bestOf_62 O hi hn h hK)
def j_X7_bestOf_52 (M : MM) (p0 : Nat) (a1 : Int32) (a2 : Int32) (a3 : Int32) (a4 : Int32) (s0 : Int32) (s1 : Nat) (s2 : Int32) : Option ((Int32) ⊕ (Int32 × Int32)) :=
  (aI M s1 s0).bind fun v1 => if s2 ≤ v1 then (j_X7_bestOf_61 M p0 a1 a2 a3 a4) else (j_X7_bestOf_56 M p0 a1 a2 a4)
set_option maxHeartbeats 4000000 in
set_option maxRecDepth 100000 in
theorem g_X7_bestOf_52 {X : CT} {lim : Nat} {M : MM} {p0 : Nat} {a1 : Int32} {a2 : Int32} {a3 : Int32} {a4 : Int32} {s0 : Int32} {s1 : Nat} {s2 : Int32} (O : OKX X cX7_bestOf RX7 3 lim 5) (hi : True) (hn : M.1 ≤ lim) {o : (Int32) ⊕ (Int32 × Int32)} (h : j_X7_bestOf_52 M p0 a1 a2 a3 a4 s0 s1 s2 = some o) (hK : (KI (fun (q : Int32) => RTX X (some .int) (some (.int q)) M) (fun (t : Int32 × Int32) => WS X M 6 [(0, rf X.1 p0), (1, .int a1), (2, .int a2), (3, .int t.1), (4, .int t.2)] [])) o) : WS X M 52 [(0, rf X.1 p0), (1, .int a1), (2, .int a2), (3, .int a3), (4, .int a4)] [.int s0, rf X.1 s1, .int s2] := by
  unfold j_X7_bestOf_52 at h
  obtain ⟨v1, e, h⟩ := bd h
  refine s_aldI (pc := 52) O e dX7_bestOf_52 ?_
  refine s_icmp_le (pc := 53) O (tgt := 61) dX7_bestOf_53 (by decide) (fun c => ?_) (fun c => ?_)
  · have h := ifp c h
    exact s_sub (pc := 61) O [0, 1, 2, 3, 4] rfl (g_X7_bestOf_61 O hi hn h hK)
  · have h := ifn c h
    exact s_sub (pc := 56) O [0, 1, 2, 4] rfl (g_X7_bestOf_56 O hi hn h hK)
def z_X7_bestOf_6 (M : MM) (p0 : Nat) (a1 : Int32) (a2 : Int32) (a3 : Int32) (a4 : Int32) : Option ((Int32) ⊕ (Int32 × Int32)) :=
  (fI M p0 7 12).bind fun v1 => if v1 ≤ a4 then (some ((.inl a3))) else ((f_X7_isAnswer M p0 a1 a4 a2).bind fun v2 => if v2 = 0 then (j_X7_bestOf_61 M p0 a1 a2 a3 a4) else (if a3 = (-9) then (j_X7_bestOf_56 M p0 a1 a2 a4) else ((fR M p0 7 10).bind fun v3 => (aI M v3 a4).bind fun v4 => (fR M p0 7 10).bind fun v5 => if (0 : Int32) ≤ a3 then (j_X7_bestOf_52 M p0 a1 a2 a3 a4 a3 v5 v4) else (j_X7_bestOf_52 M p0 a1 a2 a3 a4 0 v5 v4))))
set_option maxHeartbeats 4000000 in
set_option maxRecDepth 100000 in
theorem b_X7_bestOf_6 {X : CT} {lim : Nat} {M : MM} {p0 : Nat} {a1 : Int32} {a2 : Int32} {a3 : Int32} {a4 : Int32} (O : OKX X cX7_bestOf RX7 3 lim 5) (hi : True) (hn : M.1 ≤ lim) {o : (Int32) ⊕ (Int32 × Int32)} (h : z_X7_bestOf_6 M p0 a1 a2 a3 a4 = some o) (hK : (KI (fun (q : Int32) => RTX X (some .int) (some (.int q)) M) (fun (t : Int32 × Int32) => WS X M 6 [(0, rf X.1 p0), (1, .int a1), (2, .int a2), (3, .int t.1), (4, .int t.2)] [])) o) : WS X M 6 [(0, rf X.1 p0), (1, .int a1), (2, .int a2), (3, .int a3), (4, .int a4)] [] := by
  unfold z_X7_bestOf_6 at h
  refine s_iload (pc := 6) O dX7_bestOf_6 4 rfl ?_
  refine s_aload_n (pc := 8) O dX7_bestOf_8 rfl 0 rfl ?_
  obtain ⟨v1, e, h⟩ := bd h
  refine s_getI (pc := 9) O kc7 (k := 12) rfl tw_683 e dX7_bestOf_9 ?_
  refine s_icmp_ge (pc := 12) O (tgt := 69) dX7_bestOf_12 (by decide) (fun c => ?_) (fun c => ?_)
  · have h := ifp c h
    refine s_iload_n (pc := 69) O dX7_bestOf_69 rfl 3 rfl ?_
    cases h
    exact s_iret (pc := 70) O hK dX7_bestOf_70
  · have h := ifn c h
    refine s_aload_n (pc := 15) O dX7_bestOf_15 rfl 0 rfl ?_
    refine s_iload_n (pc := 16) O dX7_bestOf_16 rfl 1 rfl ?_
    refine s_iload (pc := 17) O dX7_bestOf_17 4 rfl ?_
    refine s_iload_n (pc := 19) O dX7_bestOf_19 rfl 2 rfl ?_
    obtain ⟨v2, e, h⟩ := bd h
    refine s_callVi (pc := 20) O (As := [.int a1, .int a4, .int a2]) kc7 (c_X7_isAnswer (G := X.1) e) cy_X7_isAnswer tw_836 tw_838 tw_34 (by decide) rfl (Nat.le_refl _) hn (r_X7_isAnswer e).1 (r_X7_isAnswer e).2 rfl (Nat.le_of_ble_eq_true rfl) dX7_bestOf_20 ?_
    refine s_if_eq (pc := 23) O (tgt := 61) dX7_bestOf_23 (by decide) (fun c => ?_) (fun c => ?_)
    · have h := ifp c h
      exact s_sub (pc := 61) O [0, 1, 2, 3, 4] rfl (g_X7_bestOf_61 O hi hn h hK)
    · have h := ifn c h
      refine s_iload_n (pc := 26) O dX7_bestOf_26 rfl 3 rfl ?_
      refine s_bipush (pc := 27) O (v := (-9)) dX7_bestOf_27 (by decide) ?_
      refine s_icmp_eq (pc := 29) O (tgt := 56) dX7_bestOf_29 (by decide) (fun c => ?_) (fun c => ?_)
      · have h := ifp c h
        exact s_sub (pc := 56) O [0, 1, 2, 4] rfl (g_X7_bestOf_56 O hi hn h hK)
      · have h := ifn c h
        refine s_aload_n (pc := 32) O dX7_bestOf_32 rfl 0 rfl ?_
        obtain ⟨v3, e, h⟩ := bd h
        refine s_getR (pc := 33) O kc7 (k := 10) rfl tw_681 e dX7_bestOf_33 ?_
        refine s_iload (pc := 36) O dX7_bestOf_36 4 rfl ?_
        obtain ⟨v4, e, h⟩ := bd h
        refine s_aldI (pc := 38) O e dX7_bestOf_38 ?_
        refine s_aload_n (pc := 39) O dX7_bestOf_39 rfl 0 rfl ?_
        obtain ⟨v5, e, h⟩ := bd h
        refine s_getR (pc := 40) O kc7 (k := 10) rfl tw_681 e dX7_bestOf_40 ?_
        refine s_iload_n (pc := 43) O dX7_bestOf_43 rfl 3 rfl ?_
        refine s_if_ge (pc := 44) O (tgt := 51) dX7_bestOf_44 (by decide) (fun c => ?_) (fun c => ?_)
        · have h := ifp c h
          refine s_iload_n (pc := 51) O dX7_bestOf_51 rfl 3 rfl ?_
          exact s_sub (pc := 52) O [0, 1, 2, 3, 4] rfl (g_X7_bestOf_52 O hi hn h hK)
        · have h := ifn c h
          refine s_iconst (pc := 47) O (v := 0) dX7_bestOf_47 (by decide) ?_
          refine s_goto (pc := 48) O (tgt := 52) dX7_bestOf_48 (by decide) ?_
          exact s_sub (pc := 52) O [0, 1, 2, 3, 4] rfl (g_X7_bestOf_52 O hi hn h hK)
set_option maxHeartbeats 4000000 in
set_option maxRecDepth 100000 in
theorem l_X7_bestOf_6 {X : CT} {lim : Nat} {M : MM} {p0 : Nat} {a1 : Int32} {a2 : Int32} {a3 : Int32} {a4 : Int32} (O : OKX X cX7_bestOf RX7 3 lim 5) (hi : True) (hn : M.1 ≤ lim) {o : Int32} {n : Nat} (h : lp (fun t => z_X7_bestOf_6 M p0 a1 a2 t.1 t.2) n (a3, a4) = some o) (hK : (fun (q : Int32) => RTX X (some .int) (some (.int q)) M) o) : WS X M 6 [(0, rf X.1 p0), (1, .int a1), (2, .int a2), (3, .int a3), (4, .int a4)] [] := by
  refine lp_ind (P := fun (o : Int32) (t : Int32 × Int32) => (fun (q : Int32) => RTX X (some .int) (some (.int q)) M) o → WS X M 6 [(0, rf X.1 p0), (1, .int a1), (2, .int a2), (3, .int t.1), (4, .int t.2)] []) (fun t o hs  hK => ?_) n (a3, a4) o h  hK
  rcases hs with h | ⟨u, h, hu⟩
  · exact b_X7_bestOf_6 O hi hn h hK
  · exact b_X7_bestOf_6 O hi hn h (show KI _ _ (.inr u) from hu hK)
def f_X7_bestOf (M : MM) (p0 : Nat) (a1 : Int32) (a2 : Int32) : Option (Int32) :=
  if p0 < M.1 ∧ kd p0 = 7 then (lp (fun t => z_X7_bestOf_6 M p0 a1 a2 t.1 t.2) FU ((-9), 0)) else none
theorem r_X7_bestOf {M : MM} {p0 : Nat} {a1 : Int32} {a2 : Int32} {o : Int32} (h : f_X7_bestOf M p0 a1 a2 = some o) : p0 < M.1 ∧ kd p0 = 7 := by
  unfold f_X7_bestOf at h
  exact (gd h).1
theorem cy_X7_bestOf : CallY yX7_bestOf cX7_bestOf 5 (some .int) 2 := ⟨by decide +kernel, tw_846, tw_47, by decide⟩
set_option maxHeartbeats 4000000 in
set_option maxRecDepth 100000 in
theorem c_X7_bestOf {G : GG} {M : MM} {p0 : Nat} {a1 : Int32} {a2 : Int32} {r : Int32} (h : f_X7_bestOf M p0 a1 a2 = some r) : Ct G yX7_bestOf cX7_bestOf 5 (some .int) 3 [rf G p0, .int a1, .int a2] M (some (.int r)) M := by
  refine ct_of (by decide +kernel) (Nat.le_of_ble_eq_true rfl) (fun X hX O hK hi0 => ?_)
  subst hX
  obtain ⟨lim, hlim⟩ : ∃ z, z = M.1 := ⟨_, rfl⟩
  rw [← hlim] at O
  replace O : OKX X cX7_bestOf RX7 3 lim 5 := O
  have hi : True := trivial
  have hn : M.1 ≤ lim := Nat.le_of_eq hlim.symm
  show WS X M 0 [(0, rf X.1 p0), (1, .int a1), (2, .int a2)] []
  unfold f_X7_bestOf at h
  obtain ⟨hg0, h⟩ := gd h
  refine s_bipush (pc := 0) O (v := (-9)) dX7_bestOf_0 (by decide) ?_
  refine s_istore_n (pc := 2) O (loc' := [(3, .int (-9)), (0, rf X.1 p0), (1, .int a1), (2, .int a2)]) dX7_bestOf_2 rfl (by decide) rfl ?_
  refine s_iconst (pc := 3) O (v := 0) dX7_bestOf_3 (by decide) ?_
  refine s_istore (pc := 4) O (loc' := [(4, .int 0), (3, .int (-9)), (0, rf X.1 p0), (1, .int a1), (2, .int a2)]) dX7_bestOf_4 (by decide) rfl ?_
  exact s_sub (pc := 6) O [2, 3, 4, 1, 0] rfl (l_X7_bestOf_6 O hi hn h hK)

def j_X7_isSaid_79 (M : MM) (p0 : Nat) (a1 : Int32) (a2 : Int32) (a4 : Int32) (s0 : Int32) : Option ((Int32) ⊕ (Int32 × Int32)) :=
  some ((.inr (s0, (a4 + 1))))
set_option maxHeartbeats 4000000 in
set_option maxRecDepth 100000 in
theorem g_X7_isSaid_79 {X : CT} {lim : Nat} {M : MM} {p0 : Nat} {a1 : Int32} {a2 : Int32} {a4 : Int32} {s0 : Int32} (O : OKX X cX7_isSaid RX7 3 lim 5) (hi : True) (hn : M.1 ≤ lim) {o : (Int32) ⊕ (Int32 × Int32)} (h : j_X7_isSaid_79 M p0 a1 a2 a4 s0 = some o) (hK : (KI (fun (q : Int32) => RTX X (some .boolean) (some (.int q)) M) (fun (t : Int32 × Int32) => WS X M 45 [(0, rf X.1 p0), (1, .int a1), (2, .int a2), (3, .int t.1), (4, .int t.2)] [])) o) : WS X M 79 [(0, rf X.1 p0), (1, .int a1), (2, .int a2), (4, .int a4)] [.int s0] := by
  unfold j_X7_isSaid_79 at h
  refine s_istore_n (pc := 79) O (loc' := [(3, .int s0), (0, rf X.1 p0), (1, .int a1), (2, .int a2), (4, .int a4)]) dX7_isSaid_79 rfl (by decide) rfl ?_
  refine s_iinc (pc := 80) O (v := (a4 + 1)) (loc' := [(4, .int (a4 + 1)), (3, .int s0), (0, rf X.1 p0), (1, .int a1), (2, .int a2)]) dX7_isSaid_80 4 rfl rfl (by decide) rfl ?_
  refine s_goto (pc := 83) O (tgt := 45) dX7_isSaid_83 (by decide) ?_
  cases h
  exact s_sub (pc := 45) O [2, 3, 4, 1, 0] rfl hK
def j_X7_isSaid_74 (M : MM) (p0 : Nat) (a1 : Int32) (a2 : Int32) (a4 : Int32) : Option ((Int32) ⊕ (Int32 × Int32)) :=
  j_X7_isSaid_79 M p0 a1 a2 a4 1
set_option maxHeartbeats 4000000 in
set_option maxRecDepth 100000 in
theorem g_X7_isSaid_74 {X : CT} {lim : Nat} {M : MM} {p0 : Nat} {a1 : Int32} {a2 : Int32} {a4 : Int32} (O : OKX X cX7_isSaid RX7 3 lim 5) (hi : True) (hn : M.1 ≤ lim) {o : (Int32) ⊕ (Int32 × Int32)} (h : j_X7_isSaid_74 M p0 a1 a2 a4 = some o) (hK : (KI (fun (q : Int32) => RTX X (some .boolean) (some (.int q)) M) (fun (t : Int32 × Int32) => WS X M 45 [(0, rf X.1 p0), (1, .int a1), (2, .int a2), (3, .int t.1), (4, .int t.2)] [])) o) : WS X M 74 [(0, rf X.1 p0), (1, .int a1), (2, .int a2), (4, .int a4)] [] := by
  unfold j_X7_isSaid_74 at h
  refine s_iconst (pc := 74) O (v := 1) dX7_isSaid_74 (by decide) ?_
  refine s_goto (pc := 75) O (tgt := 79) dX7_isSaid_75 (by decide) ?_
  exact s_sub (pc := 79) O [0, 1, 2, 3] rfl (g_X7_isSaid_79 O hi hn h hK)
def z_X7_isSaid_45 (M : MM) (p0 : Nat) (a1 : Int32) (a2 : Int32) (a3 : Int32) (a4 : Int32) : Option ((Int32) ⊕ (Int32 × Int32)) :=
  (fR M p0 7 3).bind fun v1 => (aI M v1 1).bind fun v2 => if v2 ≤ a4 then ((if a3 = 0 ∨ a3 = 1 then (some a3) else none).map .inl) else (if a2 = 0 then ((if a3 = 0 ∨ a3 = 1 then (some a3) else none).map .inl) else (if a3 = 0 then ((f_X7_isOf M p0 a1 a4).bind fun v3 => if v3 = 0 then (j_X7_isSaid_79 M p0 a1 a2 a4 0) else (j_X7_isSaid_74 M p0 a1 a2 a4)) else (j_X7_isSaid_74 M p0 a1 a2 a4)))
set_option maxHeartbeats 4000000 in
set_option maxRecDepth 100000 in
theorem b_X7_isSaid_45 {X : CT} {lim : Nat} {M : MM} {p0 : Nat} {a1 : Int32} {a2 : Int32} {a3 : Int32} {a4 : Int32} (O : OKX X cX7_isSaid RX7 3 lim 5) (hi : True) (hn : M.1 ≤ lim) {o : (Int32) ⊕ (Int32 × Int32)} (h : z_X7_isSaid_45 M p0 a1 a2 a3 a4 = some o) (hK : (KI (fun (q : Int32) => RTX X (some .boolean) (some (.int q)) M) (fun (t : Int32 × Int32) => WS X M 45 [(0, rf X.1 p0), (1, .int a1), (2, .int a2), (3, .int t.1), (4, .int t.2)] [])) o) : WS X M 45 [(0, rf X.1 p0), (1, .int a1), (2, .int a2), (3, .int a3), (4, .int a4)] [] := by
  unfold z_X7_isSaid_45 at h
  refine s_iload (pc := 45) O dX7_isSaid_45 4 rfl ?_
  refine s_aload_n (pc := 47) O dX7_isSaid_47 rfl 0 rfl ?_
  obtain ⟨v1, e, h⟩ := bd h
  refine s_getR (pc := 48) O kc7 (k := 3) rfl tw_674 e dX7_isSaid_48 ?_
  refine s_iconst (pc := 51) O (v := 1) dX7_isSaid_51 (by decide) ?_
  obtain ⟨v2, e, h⟩ := bd h
  refine s_aldI (pc := 52) O e dX7_isSaid_52 ?_
  refine s_icmp_ge (pc := 53) O (tgt := 86) dX7_isSaid_53 (by decide) (fun c => ?_) (fun c => ?_)
  · have h := ifp c h
    obtain ⟨q0, hq0, ho0⟩ := mpi h; subst ho0; replace h := hq0
    refine s_iload_n (pc := 86) O dX7_isSaid_86 rfl 3 rfl ?_
    obtain ⟨hz, h⟩ := gd h
    cases h
    exact s_zret (pc := 87) O hz hK dX7_isSaid_87
  · have h := ifn c h
    refine s_iload_n (pc := 56) O dX7_isSaid_56 rfl 2 rfl ?_
    refine s_if_eq (pc := 57) O (tgt := 86) dX7_isSaid_57 (by decide) (fun c => ?_) (fun c => ?_)
    · have h := ifp c h
      obtain ⟨q0, hq0, ho0⟩ := mpi h; subst ho0; replace h := hq0
      refine s_iload_n (pc := 86) O dX7_isSaid_86 rfl 3 rfl ?_
      obtain ⟨hz, h⟩ := gd h
      cases h
      exact s_zret (pc := 87) O hz hK dX7_isSaid_87
    · have h := ifn c h
      refine s_iload_n (pc := 60) O dX7_isSaid_60 rfl 3 rfl ?_
      refine s_if_ne (pc := 61) O (tgt := 74) dX7_isSaid_61 (by decide) (fun c => ?_) (fun c => ?_)
      · have h := ifn c h
        exact s_sub (pc := 74) O [0, 1, 2, 4] rfl (g_X7_isSaid_74 O hi hn h hK)
      · have h := ifp c h
        refine s_aload_n (pc := 64) O dX7_isSaid_64 rfl 0 rfl ?_
        refine s_iload_n (pc := 65) O dX7_isSaid_65 rfl 1 rfl ?_
        refine s_iload (pc := 66) O dX7_isSaid_66 4 rfl ?_
        obtain ⟨v3, e, h⟩ := bd h
        refine s_callVi (pc := 68) O (As := [.int a1, .int a4]) kc7 (c_X7_isOf (G := X.1) e) cy_X7_isOf tw_663 tw_665 tw_21 (by decide) rfl (Nat.le_refl _) hn (r_X7_isOf e).1 (r_X7_isOf e).2 rfl (Nat.le_of_ble_eq_true rfl) dX7_isSaid_68 ?_
        refine s_if_eq (pc := 71) O (tgt := 78) dX7_isSaid_71 (by decide) (fun c => ?_) (fun c => ?_)
        · have h := ifp c h
          refine s_iconst (pc := 78) O (v := 0) dX7_isSaid_78 (by decide) ?_
          exact s_sub (pc := 79) O [0, 1, 2, 4] rfl (g_X7_isSaid_79 O hi hn h hK)
        · have h := ifn c h
          exact s_sub (pc := 74) O [0, 1, 2, 4] rfl (g_X7_isSaid_74 O hi hn h hK)
set_option maxHeartbeats 4000000 in
set_option maxRecDepth 100000 in
theorem l_X7_isSaid_45 {X : CT} {lim : Nat} {M : MM} {p0 : Nat} {a1 : Int32} {a2 : Int32} {a3 : Int32} {a4 : Int32} (O : OKX X cX7_isSaid RX7 3 lim 5) (hi : True) (hn : M.1 ≤ lim) {o : Int32} {n : Nat} (h : lp (fun t => z_X7_isSaid_45 M p0 a1 a2 t.1 t.2) n (a3, a4) = some o) (hK : (fun (q : Int32) => RTX X (some .boolean) (some (.int q)) M) o) : WS X M 45 [(0, rf X.1 p0), (1, .int a1), (2, .int a2), (3, .int a3), (4, .int a4)] [] := by
  refine lp_ind (P := fun (o : Int32) (t : Int32 × Int32) => (fun (q : Int32) => RTX X (some .boolean) (some (.int q)) M) o → WS X M 45 [(0, rf X.1 p0), (1, .int a1), (2, .int a2), (3, .int t.1), (4, .int t.2)] []) (fun t o hs  hK => ?_) n (a3, a4) o h  hK
  rcases hs with h | ⟨u, h, hu⟩
  · exact b_X7_isSaid_45 O hi hn h hK
  · exact b_X7_isSaid_45 O hi hn h (show KI _ _ (.inr u) from hu hK)
def j_X7_isSaid_33 (M : MM) (p0 : Nat) (a1 : Int32) (a3 : Int32) (s0 : Int32) : Option ((Int32) ⊕ (Int32 × Int32)) :=
  some ((.inr (s0, (a3 + 1))))
set_option maxHeartbeats 4000000 in
set_option maxRecDepth 100000 in
theorem g_X7_isSaid_33 {X : CT} {lim : Nat} {M : MM} {p0 : Nat} {a1 : Int32} {a3 : Int32} {s0 : Int32} (O : OKX X cX7_isSaid RX7 3 lim 5) (hi : True) (hn : M.1 ≤ lim) {o : (Int32) ⊕ (Int32 × Int32)} (h : j_X7_isSaid_33 M p0 a1 a3 s0 = some o) (hK : (KI (fun (q : Int32) => RTX X (some .boolean) (some (.int q)) M) (fun (t : Int32 × Int32) => WS X M 4 [(0, rf X.1 p0), (1, .int a1), (2, .int t.1), (3, .int t.2)] [])) o) : WS X M 33 [(0, rf X.1 p0), (1, .int a1), (3, .int a3)] [.int s0] := by
  unfold j_X7_isSaid_33 at h
  refine s_istore_n (pc := 33) O (loc' := [(2, .int s0), (0, rf X.1 p0), (1, .int a1), (3, .int a3)]) dX7_isSaid_33 rfl (by decide) rfl ?_
  refine s_iinc (pc := 34) O (v := (a3 + 1)) (loc' := [(3, .int (a3 + 1)), (2, .int s0), (0, rf X.1 p0), (1, .int a1)]) dX7_isSaid_34 3 rfl rfl (by decide) rfl ?_
  refine s_goto (pc := 37) O (tgt := 4) dX7_isSaid_37 (by decide) ?_
  cases h
  exact s_sub (pc := 4) O [2, 3, 1, 0] rfl hK
def j_X7_isSaid_32 (M : MM) (p0 : Nat) (a1 : Int32) (a3 : Int32) : Option ((Int32) ⊕ (Int32 × Int32)) :=
  j_X7_isSaid_33 M p0 a1 a3 0
set_option maxHeartbeats 4000000 in
set_option maxRecDepth 100000 in
theorem g_X7_isSaid_32 {X : CT} {lim : Nat} {M : MM} {p0 : Nat} {a1 : Int32} {a3 : Int32} (O : OKX X cX7_isSaid RX7 3 lim 5) (hi : True) (hn : M.1 ≤ lim) {o : (Int32) ⊕ (Int32 × Int32)} (h : j_X7_isSaid_32 M p0 a1 a3 = some o) (hK : (KI (fun (q : Int32) => RTX X (some .boolean) (some (.int q)) M) (fun (t : Int32 × Int32) => WS X M 4 [(0, rf X.1 p0), (1, .int a1), (2, .int t.1), (3, .int t.2)] [])) o) : WS X M 32 [(0, rf X.1 p0), (1, .int a1), (3, .int a3)] [] := by
  unfold j_X7_isSaid_32 at h
  refine s_iconst (pc := 32) O (v := 0) dX7_isSaid_32 (by decide) ?_
  exact s_sub (pc := 33) O [0, 1, 2] rfl (g_X7_isSaid_33 O hi hn h hK)
def z_X7_isSaid_4 (M : MM) (p0 : Nat) (a1 : Int32) (a2 : Int32) (a3 : Int32) : Option ((Int32) ⊕ (Int32 × Int32)) :=
  (f_X7_length M a1).bind fun v1 => if v1 ≤ a3 then ((lp (fun t => z_X7_isSaid_45 M p0 a1 a2 t.1 t.2) FU (0, 0)).map .inl) else (if a2 = 0 then (j_X7_isSaid_32 M p0 a1 a3) else ((f_X7_wordOf M a1 a3).bind fun v2 => (f_X7_isWord M p0 v2).bind fun v3 => if v3 = 0 then (j_X7_isSaid_32 M p0 a1 a3) else (j_X7_isSaid_33 M p0 a1 a3 1)))
set_option maxHeartbeats 4000000 in
set_option maxRecDepth 100000 in
theorem b_X7_isSaid_4 {X : CT} {lim : Nat} {M : MM} {p0 : Nat} {a1 : Int32} {a2 : Int32} {a3 : Int32} (O : OKX X cX7_isSaid RX7 3 lim 5) (hi : True) (hn : M.1 ≤ lim) {o : (Int32) ⊕ (Int32 × Int32)} (h : z_X7_isSaid_4 M p0 a1 a2 a3 = some o) (hK : (KI (fun (q : Int32) => RTX X (some .boolean) (some (.int q)) M) (fun (t : Int32 × Int32) => WS X M 4 [(0, rf X.1 p0), (1, .int a1), (2, .int t.1), (3, .int t.2)] [])) o) : WS X M 4 [(0, rf X.1 p0), (1, .int a1), (2, .int a2), (3, .int a3)] [] := by
  unfold z_X7_isSaid_4 at h
  refine s_iload_n (pc := 4) O dX7_isSaid_4 rfl 3 rfl ?_
  refine s_iload_n (pc := 5) O dX7_isSaid_5 rfl 1 rfl ?_
  obtain ⟨v1, e, h⟩ := bd h
  refine s_callSi (pc := 6) O (As := [.int a1]) (c_X7_length (G := X.1) e) cy_X7_length tw_650 tw_651 (by decide) rfl (Nat.le_refl _) hn rfl (Nat.le_of_ble_eq_true rfl) dX7_isSaid_6 ?_
  refine s_icmp_ge (pc := 9) O (tgt := 40) dX7_isSaid_9 (by decide) (fun c => ?_) (fun c => ?_)
  · have h := ifp c h
    obtain ⟨q0, hq0, ho0⟩ := mpi h; subst ho0; replace h := hq0
    refine s_iconst (pc := 40) O (v := 0) dX7_isSaid_40 (by decide) ?_
    refine s_istore_n (pc := 41) O (loc' := [(3, .int 0), (0, rf X.1 p0), (1, .int a1), (2, .int a2)]) dX7_isSaid_41 rfl (by decide) rfl ?_
    refine s_iconst (pc := 42) O (v := 0) dX7_isSaid_42 (by decide) ?_
    refine s_istore (pc := 43) O (loc' := [(4, .int 0), (3, .int 0), (0, rf X.1 p0), (1, .int a1), (2, .int a2)]) dX7_isSaid_43 (by decide) rfl ?_
    exact s_sub (pc := 45) O [2, 3, 4, 1, 0] rfl (l_X7_isSaid_45 O hi hn h hK)
  · have h := ifn c h
    refine s_iload_n (pc := 12) O dX7_isSaid_12 rfl 2 rfl ?_
    refine s_if_eq (pc := 13) O (tgt := 32) dX7_isSaid_13 (by decide) (fun c => ?_) (fun c => ?_)
    · have h := ifp c h
      exact s_sub (pc := 32) O [0, 1, 3] rfl (g_X7_isSaid_32 O hi hn h hK)
    · have h := ifn c h
      refine s_aload_n (pc := 16) O dX7_isSaid_16 rfl 0 rfl ?_
      refine s_iload_n (pc := 17) O dX7_isSaid_17 rfl 1 rfl ?_
      refine s_iload_n (pc := 18) O dX7_isSaid_18 rfl 3 rfl ?_
      obtain ⟨v2, e, h⟩ := bd h
      refine s_callSi (pc := 19) O (As := [.int a1, .int a3]) (c_X7_wordOf (G := X.1) e) cy_X7_wordOf tw_653 tw_654 (by decide) rfl (Nat.le_refl _) hn rfl (Nat.le_of_ble_eq_true rfl) dX7_isSaid_19 ?_
      obtain ⟨v3, e, h⟩ := bd h
      refine s_callVi (pc := 22) O (As := [.int v2]) kc7 (c_X7_isWord (G := X.1) e) cy_X7_isWord tw_656 tw_658 tw_20 (by decide) rfl (Nat.le_refl _) hn (r_X7_isWord e).1 (r_X7_isWord e).2 rfl (Nat.le_of_ble_eq_true rfl) dX7_isSaid_22 ?_
      refine s_if_eq (pc := 25) O (tgt := 32) dX7_isSaid_25 (by decide) (fun c => ?_) (fun c => ?_)
      · have h := ifp c h
        exact s_sub (pc := 32) O [0, 1, 3] rfl (g_X7_isSaid_32 O hi hn h hK)
      · have h := ifn c h
        refine s_iconst (pc := 28) O (v := 1) dX7_isSaid_28 (by decide) ?_
        refine s_goto (pc := 29) O (tgt := 33) dX7_isSaid_29 (by decide) ?_
        exact s_sub (pc := 33) O [0, 1, 3] rfl (g_X7_isSaid_33 O hi hn h hK)
set_option maxHeartbeats 4000000 in
set_option maxRecDepth 100000 in
theorem l_X7_isSaid_4 {X : CT} {lim : Nat} {M : MM} {p0 : Nat} {a1 : Int32} {a2 : Int32} {a3 : Int32} (O : OKX X cX7_isSaid RX7 3 lim 5) (hi : True) (hn : M.1 ≤ lim) {o : Int32} {n : Nat} (h : lp (fun t => z_X7_isSaid_4 M p0 a1 t.1 t.2) n (a2, a3) = some o) (hK : (fun (q : Int32) => RTX X (some .boolean) (some (.int q)) M) o) : WS X M 4 [(0, rf X.1 p0), (1, .int a1), (2, .int a2), (3, .int a3)] [] := by
  refine lp_ind (P := fun (o : Int32) (t : Int32 × Int32) => (fun (q : Int32) => RTX X (some .boolean) (some (.int q)) M) o → WS X M 4 [(0, rf X.1 p0), (1, .int a1), (2, .int t.1), (3, .int t.2)] []) (fun t o hs  hK => ?_) n (a2, a3) o h  hK
  rcases hs with h | ⟨u, h, hu⟩
  · exact b_X7_isSaid_4 O hi hn h hK
  · exact b_X7_isSaid_4 O hi hn h (show KI _ _ (.inr u) from hu hK)
def f_X7_isSaid (M : MM) (p0 : Nat) (a1 : Int32) : Option (Int32) :=
  if p0 < M.1 ∧ kd p0 = 7 then (lp (fun t => z_X7_isSaid_4 M p0 a1 t.1 t.2) FU (1, 0)) else none
theorem r_X7_isSaid {M : MM} {p0 : Nat} {a1 : Int32} {o : Int32} (h : f_X7_isSaid M p0 a1 = some o) : p0 < M.1 ∧ kd p0 = 7 := by
  unfold f_X7_isSaid at h
  exact (gd h).1
theorem cy_X7_isSaid : CallY yX7_isSaid cX7_isSaid 5 (some .boolean) 1 := ⟨by decide +kernel, tw_649, tw_47, by decide⟩
set_option maxHeartbeats 4000000 in
set_option maxRecDepth 100000 in
theorem c_X7_isSaid {G : GG} {M : MM} {p0 : Nat} {a1 : Int32} {r : Int32} (h : f_X7_isSaid M p0 a1 = some r) : Ct G yX7_isSaid cX7_isSaid 5 (some .boolean) 3 [rf G p0, .int a1] M (some (.int r)) M := by
  refine ct_of (by decide +kernel) (Nat.le_of_ble_eq_true rfl) (fun X hX O hK hi0 => ?_)
  subst hX
  obtain ⟨lim, hlim⟩ : ∃ z, z = M.1 := ⟨_, rfl⟩
  rw [← hlim] at O
  replace O : OKX X cX7_isSaid RX7 3 lim 5 := O
  have hi : True := trivial
  have hn : M.1 ≤ lim := Nat.le_of_eq hlim.symm
  show WS X M 0 [(0, rf X.1 p0), (1, .int a1)] []
  unfold f_X7_isSaid at h
  obtain ⟨hg0, h⟩ := gd h
  refine s_iconst (pc := 0) O (v := 1) dX7_isSaid_0 (by decide) ?_
  refine s_istore_n (pc := 1) O (loc' := [(2, .int 1), (0, rf X.1 p0), (1, .int a1)]) dX7_isSaid_1 rfl (by decide) rfl ?_
  refine s_iconst (pc := 2) O (v := 0) dX7_isSaid_2 (by decide) ?_
  refine s_istore_n (pc := 3) O (loc' := [(3, .int 0), (2, .int 1), (0, rf X.1 p0), (1, .int a1)]) dX7_isSaid_3 rfl (by decide) rfl ?_
  exact s_sub (pc := 4) O [2, 3, 1, 0] rfl (l_X7_isSaid_4 O hi hn h hK)

def j_X7_rate_80 (M : MM) (p0 : Nat) (a1 : Int32) (a2 : Int32) (s0 : Int64) (s1 : Int64) (s2 : Nat) : Option (Int32 × MM) :=
  (wfJ M s2 7 0 ((s1 + s0))).bind fun M1 => (fR M1 p0 7 3).bind fun v2 => (aI M1 v2 ((12 + a2))).bind fun v3 => (fR M1 p0 7 3).bind fun v4 => (aI M1 v4 ((30 + a2))).bind fun v5 => (fR M1 p0 7 3).bind fun v6 => (aI M1 v6 ((21 + a2))).bind fun v7 => if a1 = 0 then (some ((v3, M1))) else (if a1 = 1 then (some (((v3 + v5), M1))) else (if a1 = 2 then (some (((v3 - v7), M1))) else (if a1 = 3 then (some (((2 * (v3 + v5)), M1))) else (if a1 = 4 then (some ((((v3 - v7) + a2), M1))) else ((f_X7_written M1 p0 a2).bind fun v8 => some (((v3 + v8), M1)))))))
set_option maxHeartbeats 4000000 in
set_option maxRecDepth 100000 in
theorem g_X7_rate_80 {X : CT} {lim : Nat} {M : MM} {p0 : Nat} {a1 : Int32} {a2 : Int32} {s0 : Int64} {s1 : Int64} {s2 : Nat} (O : OKX X cX7_rate RX7 3 lim 6) (hi : True) (hn : M.1 ≤ lim) {o : Int32 × MM} (h : j_X7_rate_80 M p0 a1 a2 s0 s1 s2 = some o) (hK : (fun (q : Int32 × MM) => RTX X (some .int) (some (.int q.1)) q.2) o) : WS X M 80 [(0, rf X.1 p0), (1, .int a1), (2, .int a2)] [.long s0, .long s1, rf X.1 s2] := by
  unfold j_X7_rate_80 at h
  refine s_ladd (pc := 80) O dX7_rate_80 ?_
  obtain ⟨M1, e, h⟩ := bd h
  refine s_putJ (pc := 81) O kc7 (k := 0) rfl rfl rfl tw_671 e dX7_rate_81 ?_
  have hn : M1.1 ≤ lim := by rw [wfJ_n e]; exact hn
  refine s_aload_n (pc := 84) O dX7_rate_84 rfl 0 rfl ?_
  obtain ⟨v2, e, h⟩ := bd h
  refine s_getR (pc := 85) O kc7 (k := 3) rfl tw_674 e dX7_rate_85 ?_
  refine s_bipush (pc := 88) O (v := 12) dX7_rate_88 (by decide) ?_
  refine s_iload_n (pc := 90) O dX7_rate_90 rfl 2 rfl ?_
  refine s_iadd (pc := 91) O dX7_rate_91 ?_
  obtain ⟨v3, e, h⟩ := bd h
  refine s_aldI (pc := 92) O e dX7_rate_92 ?_
  refine s_istore_n (pc := 93) O (loc' := [(3, .int v3), (0, rf X.1 p0), (1, .int a1), (2, .int a2)]) dX7_rate_93 rfl (by decide) rfl ?_
  refine s_iload_n (pc := 94) O dX7_rate_94 rfl 0 rfl ?_
  refine s_aload_n (pc := 95) O dX7_rate_95 rfl 1 rfl ?_
  obtain ⟨v4, e, h⟩ := bd h
  refine s_getR (pc := 96) O kc7 (k := 3) rfl tw_674 e dX7_rate_96 ?_
  refine s_bipush (pc := 99) O (v := 30) dX7_rate_99 (by decide) ?_
  refine s_iload_n (pc := 101) O dX7_rate_101 rfl 3 rfl ?_
  refine s_iadd (pc := 102) O dX7_rate_102 ?_
  obtain ⟨v5, e, h⟩ := bd h
  refine s_aldI (pc := 103) O e dX7_rate_103 ?_
  refine s_iadd (pc := 104) O dX7_rate_104 ?_
  refine s_istore (pc := 105) O (loc' := [(4, .int (v3 + v5)), (3, .int v3), (0, rf X.1 p0), (1, .int a1), (2, .int a2)]) dX7_rate_105 (by decide) rfl ?_
  refine s_iload_n (pc := 107) O dX7_rate_107 rfl 1 rfl ?_
  refine s_aload_n (pc := 108) O dX7_rate_108 rfl 2 rfl ?_
  obtain ⟨v6, e, h⟩ := bd h
  refine s_getR (pc := 109) O kc7 (k := 3) rfl tw_674 e dX7_rate_109 ?_
  refine s_bipush (pc := 112) O (v := 21) dX7_rate_112 (by decide) ?_
  refine s_iload_n (pc := 114) O dX7_rate_114 rfl 4 rfl ?_
  refine s_iadd (pc := 115) O dX7_rate_115 ?_
  obtain ⟨v7, e, h⟩ := bd h
  refine s_aldI (pc := 116) O e dX7_rate_116 ?_
  refine s_isub (pc := 117) O dX7_rate_117 ?_
  refine s_istore (pc := 118) O (loc' := [(5, .int (v3 - v7)), (4, .int (v3 + v5)), (3, .int v3), (0, rf X.1 p0), (1, .int a1), (2, .int a2)]) dX7_rate_118 (by decide) rfl ?_
  refine s_iload_n (pc := 120) O dX7_rate_120 rfl 4 rfl ?_
  refine s_if_ne (pc := 121) O (tgt := 128) dX7_rate_121 (by decide) (fun c => ?_) (fun c => ?_)
  · have h := ifn c h
    refine s_iload_n (pc := 128) O dX7_rate_128 rfl 4 rfl ?_
    refine s_iconst (pc := 129) O (v := 1) dX7_rate_129 (by decide) ?_
    refine s_icmp_ne (pc := 130) O (tgt := 138) dX7_rate_130 (by decide) (fun c => ?_) (fun c => ?_)
    · have h := ifn c h
      refine s_iload_n (pc := 138) O dX7_rate_138 rfl 4 rfl ?_
      refine s_iconst (pc := 139) O (v := 2) dX7_rate_139 (by decide) ?_
      refine s_icmp_ne (pc := 140) O (tgt := 148) dX7_rate_140 (by decide) (fun c => ?_) (fun c => ?_)
      · have h := ifn c h
        refine s_iload_n (pc := 148) O dX7_rate_148 rfl 4 rfl ?_
        refine s_iconst (pc := 149) O (v := 3) dX7_rate_149 (by decide) ?_
        refine s_icmp_ne (pc := 150) O (tgt := 160) dX7_rate_150 (by decide) (fun c => ?_) (fun c => ?_)
        · have h := ifn c h
          refine s_iload_n (pc := 160) O dX7_rate_160 rfl 4 rfl ?_
          refine s_iconst (pc := 161) O (v := 4) dX7_rate_161 (by decide) ?_
          refine s_icmp_ne (pc := 162) O (tgt := 172) dX7_rate_162 (by decide) (fun c => ?_) (fun c => ?_)
          · have h := ifn c h
            refine s_iload_n (pc := 172) O dX7_rate_172 rfl 2 rfl ?_
            refine s_aload_n (pc := 173) O dX7_rate_173 rfl 3 rfl ?_
            refine s_iload_n (pc := 174) O dX7_rate_174 rfl 5 rfl ?_
            obtain ⟨v8, e, h⟩ := bd h
            refine s_callVi (pc := 175) O (As := [.int a2]) kc7 (c_X7_written (G := X.1) e) cy_X7_written tw_896 tw_898 tw_38 (by decide) rfl (Nat.le_refl _) hn (r_X7_written e).1 (r_X7_written e).2 rfl (Nat.le_of_ble_eq_true rfl) dX7_rate_175 ?_
            refine s_iadd (pc := 178) O dX7_rate_178 ?_
            cases h
            exact s_iret (pc := 179) O hK dX7_rate_179
          · have h := ifp c h
            refine s_iload (pc := 165) O dX7_rate_165 0 rfl ?_
            refine s_iload_n (pc := 167) O dX7_rate_167 rfl 5 rfl ?_
            refine s_iadd (pc := 168) O dX7_rate_168 ?_
            refine s_goto (pc := 169) O (tgt := 179) dX7_rate_169 (by decide) ?_
            cases h
            exact s_iret (pc := 179) O hK dX7_rate_179
        · have h := ifp c h
          refine s_iconst (pc := 153) O (v := 2) dX7_rate_153 (by decide) ?_
          refine s_iload (pc := 154) O dX7_rate_154 1 rfl ?_
          refine s_imul (pc := 156) O dX7_rate_156 ?_
          refine s_goto (pc := 157) O (tgt := 179) dX7_rate_157 (by decide) ?_
          cases h
          exact s_iret (pc := 179) O hK dX7_rate_179
      · have h := ifp c h
        refine s_iload (pc := 143) O dX7_rate_143 0 rfl ?_
        refine s_goto (pc := 145) O (tgt := 179) dX7_rate_145 (by decide) ?_
        cases h
        exact s_iret (pc := 179) O hK dX7_rate_179
    · have h := ifp c h
      refine s_iload (pc := 133) O dX7_rate_133 1 rfl ?_
      refine s_goto (pc := 135) O (tgt := 179) dX7_rate_135 (by decide) ?_
      cases h
      exact s_iret (pc := 179) O hK dX7_rate_179
  · have h := ifp c h
    refine s_iload_n (pc := 124) O dX7_rate_124 rfl 2 rfl ?_
    refine s_goto (pc := 125) O (tgt := 179) dX7_rate_125 (by decide) ?_
    cases h
    exact s_iret (pc := 179) O hK dX7_rate_179
def f_X7_rate (M : MM) (p0 : Nat) (a1 : Int32) (a2 : Int32) : Option (Int32 × MM) :=
  if p0 < M.1 ∧ kd p0 = 7 then ((f_X7_in M a1 0 5).bind fun v1 => if v1 = 0 then (some (((-1000000), M))) else ((f_X7_isWord M p0 a2).bind fun v2 => if v2 = 0 then (some (((-1000000), M))) else ((fJ M p0 7 0).bind fun v3 => if a1 = 0 then (j_X7_rate_80 M p0 a1 a2 1 v3 p0) else (if a1 = 1 then (j_X7_rate_80 M p0 a1 a2 11 v3 p0) else (if a1 = 2 then (j_X7_rate_80 M p0 a1 a2 101 v3 p0) else (if a1 = 3 then (j_X7_rate_80 M p0 a1 a2 1011 v3 p0) else (if a1 = 4 then (j_X7_rate_80 M p0 a1 a2 10101 v3 p0) else (j_X7_rate_80 M p0 a1 a2 100001 v3 p0)))))))) else none
theorem r_X7_rate {M : MM} {p0 : Nat} {a1 : Int32} {a2 : Int32} {o : Int32 × MM} (h : f_X7_rate M p0 a1 a2 = some o) : p0 < M.1 ∧ kd p0 = 7 := by
  unfold f_X7_rate at h
  exact (gd h).1
theorem cy_X7_rate : CallY yX7_rate cX7_rate 6 (some .int) 2 := ⟨by decide +kernel, tw_889, tw_47, by decide⟩
set_option maxHeartbeats 4000000 in
set_option maxRecDepth 100000 in
theorem c_X7_rate {G : GG} {M : MM} {p0 : Nat} {a1 : Int32} {a2 : Int32} {r : Int32} {M' : MM} (h : f_X7_rate M p0 a1 a2 = some (r, M')) (hn : M.1 ≤ M'.1) : Ct G yX7_rate cX7_rate 6 (some .int) 3 [rf G p0, .int a1, .int a2] M (some (.int r)) M' := by
  refine ct_of (by decide +kernel) (Nat.le_of_ble_eq_true rfl) (fun X hX O hK hi0 => ?_)
  subst hX
  obtain ⟨lim, hlim⟩ : ∃ z, z = M'.1 := ⟨_, rfl⟩
  rw [← hlim] at O hn
  replace O : OKX X cX7_rate RX7 3 lim 6 := O
  have hi : True := trivial
  show WS X M 0 [(0, rf X.1 p0), (1, .int a1), (2, .int a2)] []
  replace hK : (fun (q : Int32 × MM) => RTX X (some .int) (some (.int q.1)) q.2) (r, M') := hK
  generalize (r, M') = o at h hK
  unfold f_X7_rate at h
  obtain ⟨hg0, h⟩ := gd h
  refine s_iload_n (pc := 0) O dX7_rate_0 rfl 1 rfl ?_
  refine s_iconst (pc := 1) O (v := 0) dX7_rate_1 (by decide) ?_
  refine s_iconst (pc := 2) O (v := 5) dX7_rate_2 (by decide) ?_
  obtain ⟨v1, e, h⟩ := bd h
  refine s_callSi (pc := 3) O (As := [.int a1, .int 0, .int 5]) (c_X7_in (G := X.1) e) cy_X7_in tw_660 tw_661 (by decide) rfl (Nat.le_refl _) hn rfl (Nat.le_of_ble_eq_true rfl) dX7_rate_3 ?_
  refine s_if_eq (pc := 6) O (tgt := 17) dX7_rate_6 (by decide) (fun c => ?_) (fun c => ?_)
  · have h := ifp c h
    refine s_ldc (pc := 17) O dX7_rate_17 tw_890 ?_
    cases h
    exact s_iret (pc := 19) O hK dX7_rate_19
  · have h := ifn c h
    refine s_aload_n (pc := 9) O dX7_rate_9 rfl 0 rfl ?_
    refine s_iload_n (pc := 10) O dX7_rate_10 rfl 2 rfl ?_
    obtain ⟨v2, e, h⟩ := bd h
    refine s_callVi (pc := 11) O (As := [.int a2]) kc7 (c_X7_isWord (G := X.1) e) cy_X7_isWord tw_656 tw_658 tw_20 (by decide) rfl (Nat.le_refl _) hn (r_X7_isWord e).1 (r_X7_isWord e).2 rfl (Nat.le_of_ble_eq_true rfl) dX7_rate_11 ?_
    refine s_if_ne (pc := 14) O (tgt := 20) dX7_rate_14 (by decide) (fun c => ?_) (fun c => ?_)
    · have h := ifn c h
      refine s_aload_n (pc := 20) O dX7_rate_20 rfl 0 rfl ?_
      refine s_dup (pc := 21) O dX7_rate_21 rfl ?_
      obtain ⟨v3, e, h⟩ := bd h
      refine s_getJ (pc := 22) O kc7 (k := 0) rfl tw_671 e dX7_rate_22 ?_
      refine s_iload_n (pc := 25) O dX7_rate_25 rfl 1 rfl ?_
      refine s_if_ne (pc := 26) O (tgt := 33) dX7_rate_26 (by decide) (fun c => ?_) (fun c => ?_)
      · have h := ifn c h
        refine s_iload_n (pc := 33) O dX7_rate_33 rfl 1 rfl ?_
        refine s_iconst (pc := 34) O (v := 1) dX7_rate_34 (by decide) ?_
        refine s_icmp_ne (pc := 35) O (tgt := 44) dX7_rate_35 (by decide) (fun c => ?_) (fun c => ?_)
        · have h := ifn c h
          refine s_iload_n (pc := 44) O dX7_rate_44 rfl 1 rfl ?_
          refine s_iconst (pc := 45) O (v := 2) dX7_rate_45 (by decide) ?_
          refine s_icmp_ne (pc := 46) O (tgt := 55) dX7_rate_46 (by decide) (fun c => ?_) (fun c => ?_)
          · have h := ifn c h
            refine s_iload_n (pc := 55) O dX7_rate_55 rfl 1 rfl ?_
            refine s_iconst (pc := 56) O (v := 3) dX7_rate_56 (by decide) ?_
            refine s_icmp_ne (pc := 57) O (tgt := 66) dX7_rate_57 (by decide) (fun c => ?_) (fun c => ?_)
            · have h := ifn c h
              refine s_iload_n (pc := 66) O dX7_rate_66 rfl 1 rfl ?_
              refine s_iconst (pc := 67) O (v := 4) dX7_rate_67 (by decide) ?_
              refine s_icmp_ne (pc := 68) O (tgt := 77) dX7_rate_68 (by decide) (fun c => ?_) (fun c => ?_)
              · have h := ifn c h
                refine s_ldc2 (pc := 77) O dX7_rate_77 tw_895 ?_
                exact s_sub (pc := 80) O [0, 1, 2] rfl (g_X7_rate_80 O hi hn h hK)
              · have h := ifp c h
                refine s_ldc2 (pc := 71) O dX7_rate_71 tw_894 ?_
                refine s_goto (pc := 74) O (tgt := 80) dX7_rate_74 (by decide) ?_
                exact s_sub (pc := 80) O [0, 1, 2] rfl (g_X7_rate_80 O hi hn h hK)
            · have h := ifp c h
              refine s_ldc2 (pc := 60) O dX7_rate_60 tw_893 ?_
              refine s_goto (pc := 63) O (tgt := 80) dX7_rate_63 (by decide) ?_
              exact s_sub (pc := 80) O [0, 1, 2] rfl (g_X7_rate_80 O hi hn h hK)
          · have h := ifp c h
            refine s_ldc2 (pc := 49) O dX7_rate_49 tw_892 ?_
            refine s_goto (pc := 52) O (tgt := 80) dX7_rate_52 (by decide) ?_
            exact s_sub (pc := 80) O [0, 1, 2] rfl (g_X7_rate_80 O hi hn h hK)
        · have h := ifp c h
          refine s_ldc2 (pc := 38) O dX7_rate_38 tw_891 ?_
          refine s_goto (pc := 41) O (tgt := 80) dX7_rate_41 (by decide) ?_
          exact s_sub (pc := 80) O [0, 1, 2] rfl (g_X7_rate_80 O hi hn h hK)
      · have h := ifp c h
        refine s_lconst (pc := 29) O (v := 1) dX7_rate_29 (by decide) ?_
        refine s_goto (pc := 30) O (tgt := 80) dX7_rate_30 (by decide) ?_
        exact s_sub (pc := 80) O [0, 1, 2] rfl (g_X7_rate_80 O hi hn h hK)
    · have h := ifp c h
      refine s_ldc (pc := 17) O dX7_rate_17 tw_890 ?_
      cases h
      exact s_iret (pc := 19) O hK dX7_rate_19

def f_X7_readsNumber (M : MM) (p0 : Nat) (a1 : Int32) (a2 : Int32) : Option (Int32 × MM) :=
  if p0 < M.1 ∧ kd p0 = 7 then ((f_X7_token M p0).bind fun M1 => if M1.1 = M.1 then ((f_X7_figure M1 p0 a2).bind fun v2 => (fR M1 p0 7 4).bind fun v3 => (waI M1 v3 a1 v2).bind fun M4 => if v2 = (-9) then (some ((0, M4))) else (some ((1, M4)))) else none) else none
theorem r_X7_readsNumber {M : MM} {p0 : Nat} {a1 : Int32} {a2 : Int32} {o : Int32 × MM} (h : f_X7_readsNumber M p0 a1 a2 = some o) : p0 < M.1 ∧ kd p0 = 7 := by
  unfold f_X7_readsNumber at h
  exact (gd h).1
theorem cy_X7_readsNumber : CallY yX7_readsNumber cX7_readsNumber 4 (some .boolean) 2 := ⟨by decide +kernel, tw_772, tw_47, by decide⟩
set_option maxHeartbeats 4000000 in
set_option maxRecDepth 100000 in
theorem c_X7_readsNumber {G : GG} {M : MM} {p0 : Nat} {a1 : Int32} {a2 : Int32} {r : Int32} {M' : MM} (h : f_X7_readsNumber M p0 a1 a2 = some (r, M')) (hn : M.1 ≤ M'.1) : Ct G yX7_readsNumber cX7_readsNumber 4 (some .boolean) 3 [rf G p0, .int a1, .int a2] M (some (.int r)) M' := by
  refine ct_of (by decide +kernel) (Nat.le_of_ble_eq_true rfl) (fun X hX O hK hi0 => ?_)
  subst hX
  obtain ⟨lim, hlim⟩ : ∃ z, z = M'.1 := ⟨_, rfl⟩
  rw [← hlim] at O hn
  replace O : OKX X cX7_readsNumber RX7 3 lim 4 := O
  have hi : True := trivial
  show WS X M 0 [(0, rf X.1 p0), (1, .int a1), (2, .int a2)] []
  replace hK : (fun (q : Int32 × MM) => RTX X (some .boolean) (some (.int q.1)) q.2) (r, M') := hK
  generalize (r, M') = o at h hK
  unfold f_X7_readsNumber at h
  obtain ⟨hg0, h⟩ := gd h
  refine s_aload_n (pc := 0) O dX7_readsNumber_0 rfl 0 rfl ?_
  obtain ⟨M1, e, h⟩ := bd h
  obtain ⟨hg, h⟩ := gd h
  refine s_callVv (pc := 1) O (As := []) kc7 (c_X7_token (G := X.1) e (Nat.le_of_eq hg.symm)) cy_X7_token tw_743 tw_745 tw_24 (by decide) rfl (Nat.le_of_eq hg.symm) (by rw [hg]; exact hn) (r_X7_token e).1 (r_X7_token e).2 rfl (Nat.le_of_ble_eq_true rfl) dX7_readsNumber_1 ?_
  have hn : M1.1 ≤ lim := by rw [hg]; exact hn
  refine s_aload_n (pc := 4) O dX7_readsNumber_4 rfl 0 rfl ?_
  refine s_iload_n (pc := 5) O dX7_readsNumber_5 rfl 2 rfl ?_
  obtain ⟨v2, e, h⟩ := bd h
  refine s_callVi (pc := 6) O (As := [.int a2]) kc7 (c_X7_figure (G := X.1) e) cy_X7_figure tw_773 tw_775 tw_30 (by decide) rfl (Nat.le_refl _) hn (r_X7_figure e).1 (r_X7_figure e).2 rfl (Nat.le_of_ble_eq_true rfl) dX7_readsNumber_6 ?_
  refine s_istore_n (pc := 9) O (loc' := [(3, .int v2), (0, rf X.1 p0), (1, .int a1), (2, .int a2)]) dX7_readsNumber_9 rfl (by decide) rfl ?_
  refine s_aload_n (pc := 10) O dX7_readsNumber_10 rfl 1 rfl ?_
  obtain ⟨v3, e, h⟩ := bd h
  refine s_getR (pc := 11) O kc7 (k := 4) rfl tw_675 e dX7_readsNumber_11 ?_
  refine s_iload_n (pc := 14) O dX7_readsNumber_14 rfl 2 rfl ?_
  refine s_iload_n (pc := 15) O dX7_readsNumber_15 rfl 0 rfl ?_
  obtain ⟨M4, e, h⟩ := bd h
  refine s_astI (pc := 16) O e dX7_readsNumber_16 ?_
  have hn : M4.1 ≤ lim := by rw [waI_n e]; exact hn
  refine s_iload_n (pc := 17) O dX7_readsNumber_17 rfl 0 rfl ?_
  refine s_bipush (pc := 18) O (v := (-9)) dX7_readsNumber_18 (by decide) ?_
  refine s_icmp_eq (pc := 20) O (tgt := 27) dX7_readsNumber_20 (by decide) (fun c => ?_) (fun c => ?_)
  · have h := ifp c h
    refine s_iconst (pc := 27) O (v := 0) dX7_readsNumber_27 (by decide) ?_
    cases h
    exact s_zret (pc := 28) O (by decide) hK dX7_readsNumber_28
  · have h := ifn c h
    refine s_iconst (pc := 23) O (v := 1) dX7_readsNumber_23 (by decide) ?_
    refine s_goto (pc := 24) O (tgt := 28) dX7_readsNumber_24 (by decide) ?_
    cases h
    exact s_zret (pc := 28) O (by decide) hK dX7_readsNumber_28

def j_X7_readsSigns_94 (M : MM) (p0 : Nat) (a1 : Int32) (a2 : Int32) : Option (Int32 × MM) :=
  (fR M p0 7 4).bind fun v1 => if a2 = 0 then ((waI M v1 ((30 + a1)) 0).bind fun M2 => if a2 = 0 ∨ a2 = 1 then (some ((a2, M2))) else none) else ((fI M p0 7 16).bind fun v3 => (waI M v1 ((30 + a1)) v3).bind fun M4 => if a2 = 0 ∨ a2 = 1 then (some ((a2, M4))) else none)
set_option maxHeartbeats 4000000 in
set_option maxRecDepth 100000 in
theorem g_X7_readsSigns_94 {X : CT} {lim : Nat} {M : MM} {p0 : Nat} {a1 : Int32} {a2 : Int32} (O : OKX X cX7_readsSigns RX7 3 lim 4) (hi : True) (hn : M.1 ≤ lim) {o : Int32 × MM} (h : j_X7_readsSigns_94 M p0 a1 a2 = some o) (hK : (fun (q : Int32 × MM) => RTX X (some .boolean) (some (.int q.1)) q.2) o) : WS X M 94 [(0, rf X.1 p0), (1, .int a1), (2, .int a2)] [] := by
  unfold j_X7_readsSigns_94 at h
  refine s_aload_n (pc := 94) O dX7_readsSigns_94 rfl 0 rfl ?_
  obtain ⟨v1, e, h⟩ := bd h
  refine s_getR (pc := 95) O kc7 (k := 4) rfl tw_675 e dX7_readsSigns_95 ?_
  refine s_bipush (pc := 98) O (v := 30) dX7_readsSigns_98 (by decide) ?_
  refine s_iload_n (pc := 100) O dX7_readsSigns_100 rfl 1 rfl ?_
  refine s_iadd (pc := 101) O dX7_readsSigns_101 ?_
  refine s_iload_n (pc := 102) O dX7_readsSigns_102 rfl 2 rfl ?_
  refine s_if_eq (pc := 103) O (tgt := 113) dX7_readsSigns_103 (by decide) (fun c => ?_) (fun c => ?_)
  · have h := ifp c h
    refine s_iconst (pc := 113) O (v := 0) dX7_readsSigns_113 (by decide) ?_
    obtain ⟨M2, e, h⟩ := bd h
    refine s_astI (pc := 114) O e dX7_readsSigns_114 ?_
    have hn : M2.1 ≤ lim := by rw [waI_n e]; exact hn
    refine s_iload_n (pc := 115) O dX7_readsSigns_115 rfl 2 rfl ?_
    obtain ⟨hz, h⟩ := gd h
    cases h
    exact s_zret (pc := 116) O hz hK dX7_readsSigns_116
  · have h := ifn c h
    refine s_aload_n (pc := 106) O dX7_readsSigns_106 rfl 0 rfl ?_
    obtain ⟨v3, e, h⟩ := bd h
    refine s_getI (pc := 107) O kc7 (k := 16) rfl tw_687 e dX7_readsSigns_107 ?_
    refine s_goto (pc := 110) O (tgt := 114) dX7_readsSigns_110 (by decide) ?_
    obtain ⟨M4, e, h⟩ := bd h
    refine s_astI (pc := 114) O e dX7_readsSigns_114 ?_
    have hn : M4.1 ≤ lim := by rw [waI_n e]; exact hn
    refine s_iload_n (pc := 115) O dX7_readsSigns_115 rfl 2 rfl ?_
    obtain ⟨hz, h⟩ := gd h
    cases h
    exact s_zret (pc := 116) O hz hK dX7_readsSigns_116
def j_X7_readsSigns_87 (M : MM) (p0 : Nat) (a1 : Int32) (a3 : Int32) (s0 : Int32) : Option ((Int32 × MM) ⊕ (Int32 × Int32 × MM)) :=
  some ((.inr (s0, (a3 + 1), M)))
set_option maxHeartbeats 4000000 in
set_option maxRecDepth 100000 in
theorem g_X7_readsSigns_87 {X : CT} {lim : Nat} {M : MM} {p0 : Nat} {a1 : Int32} {a3 : Int32} {s0 : Int32} (O : OKX X cX7_readsSigns RX7 3 lim 4) (hi : True) (hn : M.1 ≤ lim) {o : (Int32 × MM) ⊕ (Int32 × Int32 × MM)} (h : j_X7_readsSigns_87 M p0 a1 a3 s0 = some o) (hK : (KI (fun (q : Int32 × MM) => RTX X (some .boolean) (some (.int q.1)) q.2) (fun (t : Int32 × Int32 × MM) => t.2.2.1 ≤ lim → WS X t.2.2 29 [(0, rf X.1 p0), (1, .int a1), (2, .int t.1), (3, .int t.2.1)] [])) o) : WS X M 87 [(0, rf X.1 p0), (1, .int a1), (3, .int a3)] [.int s0] := by
  unfold j_X7_readsSigns_87 at h
  refine s_istore_n (pc := 87) O (loc' := [(2, .int s0), (0, rf X.1 p0), (1, .int a1), (3, .int a3)]) dX7_readsSigns_87 rfl (by decide) rfl ?_
  refine s_iinc (pc := 88) O (v := (a3 + 1)) (loc' := [(3, .int (a3 + 1)), (2, .int s0), (0, rf X.1 p0), (1, .int a1)]) dX7_readsSigns_88 3 rfl rfl (by decide) rfl ?_
  refine s_goto (pc := 91) O (tgt := 29) dX7_readsSigns_91 (by decide) ?_
  cases h
  exact s_sub (pc := 29) O [2, 3, 1, 0] rfl (hK hn)
def z_X7_readsSigns_29 (M : MM) (p0 : Nat) (a1 : Int32) (a2 : Int32) (a3 : Int32) : Option ((Int32 × MM) ⊕ (Int32 × Int32 × MM)) :=
  (fI M p0 7 16).bind fun v1 => if v1 ≤ a3 then ((j_X7_readsSigns_94 M p0 a1 a2).map .inl) else (if a2 = 0 then ((j_X7_readsSigns_94 M p0 a1 a2).map .inl) else ((fR M p0 7 4).bind fun v2 => (fI M p0 7 15).bind fun v3 => (f_X7_byteAt M p0 ((v3 + a3))).bind fun v4 => (waI M v2 (((39 + (5 * a1)) + a3)) ((v4 - 97))).bind fun M5 => (fI M5 p0 7 15).bind fun v6 => (f_X7_byteAt M5 p0 ((v6 + a3))).bind fun v7 => if (104 : Int32) < v7 then (j_X7_readsSigns_87 M5 p0 a1 a3 0) else (j_X7_readsSigns_87 M5 p0 a1 a3 1)))
set_option maxHeartbeats 4000000 in
set_option maxRecDepth 100000 in
theorem b_X7_readsSigns_29 {X : CT} {lim : Nat} {M : MM} {p0 : Nat} {a1 : Int32} {a2 : Int32} {a3 : Int32} (O : OKX X cX7_readsSigns RX7 3 lim 4) (hi : True) (hn : M.1 ≤ lim) {o : (Int32 × MM) ⊕ (Int32 × Int32 × MM)} (h : z_X7_readsSigns_29 M p0 a1 a2 a3 = some o) (hK : (KI (fun (q : Int32 × MM) => RTX X (some .boolean) (some (.int q.1)) q.2) (fun (t : Int32 × Int32 × MM) => t.2.2.1 ≤ lim → WS X t.2.2 29 [(0, rf X.1 p0), (1, .int a1), (2, .int t.1), (3, .int t.2.1)] [])) o) : WS X M 29 [(0, rf X.1 p0), (1, .int a1), (2, .int a2), (3, .int a3)] [] := by
  unfold z_X7_readsSigns_29 at h
  refine s_iload_n (pc := 29) O dX7_readsSigns_29 rfl 3 rfl ?_
  refine s_aload_n (pc := 30) O dX7_readsSigns_30 rfl 0 rfl ?_
  obtain ⟨v1, e, h⟩ := bd h
  refine s_getI (pc := 31) O kc7 (k := 16) rfl tw_687 e dX7_readsSigns_31 ?_
  refine s_icmp_ge (pc := 34) O (tgt := 94) dX7_readsSigns_34 (by decide) (fun c => ?_) (fun c => ?_)
  · have h := ifp c h
    obtain ⟨q0, hq0, ho0⟩ := mpi h; subst ho0; replace h := hq0
    exact s_sub (pc := 94) O [0, 1, 2] rfl (g_X7_readsSigns_94 O hi hn h hK)
  · have h := ifn c h
    refine s_iload_n (pc := 37) O dX7_readsSigns_37 rfl 2 rfl ?_
    refine s_if_eq (pc := 38) O (tgt := 94) dX7_readsSigns_38 (by decide) (fun c => ?_) (fun c => ?_)
    · have h := ifp c h
      obtain ⟨q0, hq0, ho0⟩ := mpi h; subst ho0; replace h := hq0
      exact s_sub (pc := 94) O [0, 1, 2] rfl (g_X7_readsSigns_94 O hi hn h hK)
    · have h := ifn c h
      refine s_aload_n (pc := 41) O dX7_readsSigns_41 rfl 0 rfl ?_
      obtain ⟨v2, e, h⟩ := bd h
      refine s_getR (pc := 42) O kc7 (k := 4) rfl tw_675 e dX7_readsSigns_42 ?_
      refine s_bipush (pc := 45) O (v := 39) dX7_readsSigns_45 (by decide) ?_
      refine s_iconst (pc := 47) O (v := 5) dX7_readsSigns_47 (by decide) ?_
      refine s_iload_n (pc := 48) O dX7_readsSigns_48 rfl 1 rfl ?_
      refine s_imul (pc := 49) O dX7_readsSigns_49 ?_
      refine s_iadd (pc := 50) O dX7_readsSigns_50 ?_
      refine s_iload_n (pc := 51) O dX7_readsSigns_51 rfl 3 rfl ?_
      refine s_iadd (pc := 52) O dX7_readsSigns_52 ?_
      refine s_aload_n (pc := 53) O dX7_readsSigns_53 rfl 0 rfl ?_
      refine s_aload_n (pc := 54) O dX7_readsSigns_54 rfl 0 rfl ?_
      obtain ⟨v3, e, h⟩ := bd h
      refine s_getI (pc := 55) O kc7 (k := 15) rfl tw_686 e dX7_readsSigns_55 ?_
      refine s_iload_n (pc := 58) O dX7_readsSigns_58 rfl 3 rfl ?_
      refine s_iadd (pc := 59) O dX7_readsSigns_59 ?_
      obtain ⟨v4, e, h⟩ := bd h
      refine s_callVi (pc := 60) O (As := [.int (v3 + a3)]) kc7 (c_X7_byteAt (G := X.1) e) cy_X7_byteAt tw_747 tw_749 tw_25 (by decide) rfl (Nat.le_refl _) hn (r_X7_byteAt e).1 (r_X7_byteAt e).2 rfl (Nat.le_of_ble_eq_true rfl) dX7_readsSigns_60 ?_
      refine s_bipush (pc := 63) O (v := 97) dX7_readsSigns_63 (by decide) ?_
      refine s_isub (pc := 65) O dX7_readsSigns_65 ?_
      obtain ⟨M5, e, h⟩ := bd h
      refine s_astI (pc := 66) O e dX7_readsSigns_66 ?_
      have hn : M5.1 ≤ lim := by rw [waI_n e]; exact hn
      refine s_aload_n (pc := 67) O dX7_readsSigns_67 rfl 0 rfl ?_
      refine s_aload_n (pc := 68) O dX7_readsSigns_68 rfl 0 rfl ?_
      obtain ⟨v6, e, h⟩ := bd h
      refine s_getI (pc := 69) O kc7 (k := 15) rfl tw_686 e dX7_readsSigns_69 ?_
      refine s_iload_n (pc := 72) O dX7_readsSigns_72 rfl 3 rfl ?_
      refine s_iadd (pc := 73) O dX7_readsSigns_73 ?_
      obtain ⟨v7, e, h⟩ := bd h
      refine s_callVi (pc := 74) O (As := [.int (v6 + a3)]) kc7 (c_X7_byteAt (G := X.1) e) cy_X7_byteAt tw_747 tw_749 tw_25 (by decide) rfl (Nat.le_refl _) hn (r_X7_byteAt e).1 (r_X7_byteAt e).2 rfl (Nat.le_of_ble_eq_true rfl) dX7_readsSigns_74 ?_
      refine s_bipush (pc := 77) O (v := 104) dX7_readsSigns_77 (by decide) ?_
      refine s_icmp_gt (pc := 79) O (tgt := 86) dX7_readsSigns_79 (by decide) (fun c => ?_) (fun c => ?_)
      · have h := ifp c h
        refine s_iconst (pc := 86) O (v := 0) dX7_readsSigns_86 (by decide) ?_
        exact s_sub (pc := 87) O [0, 1, 3] rfl (g_X7_readsSigns_87 O hi hn h hK)
      · have h := ifn c h
        refine s_iconst (pc := 82) O (v := 1) dX7_readsSigns_82 (by decide) ?_
        refine s_goto (pc := 83) O (tgt := 87) dX7_readsSigns_83 (by decide) ?_
        exact s_sub (pc := 87) O [0, 1, 3] rfl (g_X7_readsSigns_87 O hi hn h hK)
set_option maxHeartbeats 4000000 in
set_option maxRecDepth 100000 in
theorem l_X7_readsSigns_29 {X : CT} {lim : Nat} {M : MM} {p0 : Nat} {a1 : Int32} {a2 : Int32} {a3 : Int32} (O : OKX X cX7_readsSigns RX7 3 lim 4) (hi : True) (hn : M.1 ≤ lim) {o : Int32 × MM} {n : Nat} (h : lp (fun t => z_X7_readsSigns_29 t.2.2 p0 a1 t.1 t.2.1) n (a2, a3, M) = some o) (hK : (fun (q : Int32 × MM) => RTX X (some .boolean) (some (.int q.1)) q.2) o) : WS X M 29 [(0, rf X.1 p0), (1, .int a1), (2, .int a2), (3, .int a3)] [] := by
  refine lp_ind (P := fun (o : Int32 × MM) (t : Int32 × Int32 × MM) => t.2.2.1 ≤ lim → (fun (q : Int32 × MM) => RTX X (some .boolean) (some (.int q.1)) q.2) o → WS X t.2.2 29 [(0, rf X.1 p0), (1, .int a1), (2, .int t.1), (3, .int t.2.1)] []) (fun t o hs hn hK => ?_) n (a2, a3, M) o h hn hK
  rcases hs with h | ⟨u, h, hu⟩
  · exact b_X7_readsSigns_29 O hi hn h hK
  · exact b_X7_readsSigns_29 O hi hn h (show KI _ _ (.inr u) from fun hn => hu hn hK)
def j_X7_readsSigns_26 (M : MM) (p0 : Nat) (a1 : Int32) (s0 : Int32) : Option (Int32 × MM) :=
  lp (fun t => z_X7_readsSigns_29 t.2.2 p0 a1 t.1 t.2.1) FU (s0, 0, M)
set_option maxHeartbeats 4000000 in
set_option maxRecDepth 100000 in
theorem g_X7_readsSigns_26 {X : CT} {lim : Nat} {M : MM} {p0 : Nat} {a1 : Int32} {s0 : Int32} (O : OKX X cX7_readsSigns RX7 3 lim 4) (hi : True) (hn : M.1 ≤ lim) {o : Int32 × MM} (h : j_X7_readsSigns_26 M p0 a1 s0 = some o) (hK : (fun (q : Int32 × MM) => RTX X (some .boolean) (some (.int q.1)) q.2) o) : WS X M 26 [(0, rf X.1 p0), (1, .int a1)] [.int s0] := by
  unfold j_X7_readsSigns_26 at h
  refine s_istore_n (pc := 26) O (loc' := [(2, .int s0), (0, rf X.1 p0), (1, .int a1)]) dX7_readsSigns_26 rfl (by decide) rfl ?_
  refine s_iconst (pc := 27) O (v := 0) dX7_readsSigns_27 (by decide) ?_
  refine s_istore_n (pc := 28) O (loc' := [(3, .int 0), (2, .int s0), (0, rf X.1 p0), (1, .int a1)]) dX7_readsSigns_28 rfl (by decide) rfl ?_
  exact s_sub (pc := 29) O [2, 3, 1, 0] rfl (l_X7_readsSigns_29 O hi hn h hK)
def j_X7_readsSigns_25 (M : MM) (p0 : Nat) (a1 : Int32) : Option (Int32 × MM) :=
  j_X7_readsSigns_26 M p0 a1 0
set_option maxHeartbeats 4000000 in
set_option maxRecDepth 100000 in
theorem g_X7_readsSigns_25 {X : CT} {lim : Nat} {M : MM} {p0 : Nat} {a1 : Int32} (O : OKX X cX7_readsSigns RX7 3 lim 4) (hi : True) (hn : M.1 ≤ lim) {o : Int32 × MM} (h : j_X7_readsSigns_25 M p0 a1 = some o) (hK : (fun (q : Int32 × MM) => RTX X (some .boolean) (some (.int q.1)) q.2) o) : WS X M 25 [(0, rf X.1 p0), (1, .int a1)] [] := by
  unfold j_X7_readsSigns_25 at h
  refine s_iconst (pc := 25) O (v := 0) dX7_readsSigns_25 (by decide) ?_
  exact s_sub (pc := 26) O [0, 1] rfl (g_X7_readsSigns_26 O hi hn h hK)
def f_X7_readsSigns (M : MM) (p0 : Nat) (a1 : Int32) : Option (Int32 × MM) :=
  if p0 < M.1 ∧ kd p0 = 7 then ((f_X7_token M p0).bind fun M1 => if M1.1 = M.1 then ((fI M1 p0 7 14).bind fun v2 => if v2 = 1 then ((fI M1 p0 7 16).bind fun v3 => if (6 : Int32) ≤ v3 then (j_X7_readsSigns_25 M1 p0 a1) else (j_X7_readsSigns_26 M1 p0 a1 1)) else (j_X7_readsSigns_25 M1 p0 a1)) else none) else none
theorem r_X7_readsSigns {M : MM} {p0 : Nat} {a1 : Int32} {o : Int32 × MM} (h : f_X7_readsSigns M p0 a1 = some o) : p0 < M.1 ∧ kd p0 = 7 := by
  unfold f_X7_readsSigns at h
  exact (gd h).1
theorem cy_X7_readsSigns : CallY yX7_readsSigns cX7_readsSigns 4 (some .boolean) 1 := ⟨by decide +kernel, tw_768, tw_47, by decide⟩
set_option maxHeartbeats 4000000 in
set_option maxRecDepth 100000 in
theorem c_X7_readsSigns {G : GG} {M : MM} {p0 : Nat} {a1 : Int32} {r : Int32} {M' : MM} (h : f_X7_readsSigns M p0 a1 = some (r, M')) (hn : M.1 ≤ M'.1) : Ct G yX7_readsSigns cX7_readsSigns 4 (some .boolean) 3 [rf G p0, .int a1] M (some (.int r)) M' := by
  refine ct_of (by decide +kernel) (Nat.le_of_ble_eq_true rfl) (fun X hX O hK hi0 => ?_)
  subst hX
  obtain ⟨lim, hlim⟩ : ∃ z, z = M'.1 := ⟨_, rfl⟩
  rw [← hlim] at O hn
  replace O : OKX X cX7_readsSigns RX7 3 lim 4 := O
  have hi : True := trivial
  show WS X M 0 [(0, rf X.1 p0), (1, .int a1)] []
  replace hK : (fun (q : Int32 × MM) => RTX X (some .boolean) (some (.int q.1)) q.2) (r, M') := hK
  generalize (r, M') = o at h hK
  unfold f_X7_readsSigns at h
  obtain ⟨hg0, h⟩ := gd h
  refine s_aload_n (pc := 0) O dX7_readsSigns_0 rfl 0 rfl ?_
  obtain ⟨M1, e, h⟩ := bd h
  obtain ⟨hg, h⟩ := gd h
  refine s_callVv (pc := 1) O (As := []) kc7 (c_X7_token (G := X.1) e (Nat.le_of_eq hg.symm)) cy_X7_token tw_743 tw_745 tw_24 (by decide) rfl (Nat.le_of_eq hg.symm) (by rw [hg]; exact hn) (r_X7_token e).1 (r_X7_token e).2 rfl (Nat.le_of_ble_eq_true rfl) dX7_readsSigns_1 ?_
  have hn : M1.1 ≤ lim := by rw [hg]; exact hn
  refine s_aload_n (pc := 4) O dX7_readsSigns_4 rfl 0 rfl ?_
  obtain ⟨v2, e, h⟩ := bd h
  refine s_getI (pc := 5) O kc7 (k := 14) rfl tw_685 e dX7_readsSigns_5 ?_
  refine s_iconst (pc := 8) O (v := 1) dX7_readsSigns_8 (by decide) ?_
  refine s_icmp_ne (pc := 9) O (tgt := 25) dX7_readsSigns_9 (by decide) (fun c => ?_) (fun c => ?_)
  · have h := ifn c h
    exact s_sub (pc := 25) O [0, 1] rfl (g_X7_readsSigns_25 O hi hn h hK)
  · have h := ifp c h
    refine s_aload_n (pc := 12) O dX7_readsSigns_12 rfl 0 rfl ?_
    obtain ⟨v3, e, h⟩ := bd h
    refine s_getI (pc := 13) O kc7 (k := 16) rfl tw_687 e dX7_readsSigns_13 ?_
    refine s_bipush (pc := 16) O (v := 6) dX7_readsSigns_16 (by decide) ?_
    refine s_icmp_ge (pc := 18) O (tgt := 25) dX7_readsSigns_18 (by decide) (fun c => ?_) (fun c => ?_)
    · have h := ifp c h
      exact s_sub (pc := 25) O [0, 1] rfl (g_X7_readsSigns_25 O hi hn h hK)
    · have h := ifn c h
      refine s_iconst (pc := 21) O (v := 1) dX7_readsSigns_21 (by decide) ?_
      refine s_goto (pc := 22) O (tgt := 26) dX7_readsSigns_22 (by decide) ?_
      exact s_sub (pc := 26) O [0, 1] rfl (g_X7_readsSigns_26 O hi hn h hK)

def j_X7_answers_68 (M : MM) (p0 : Nat) (a2 : Int32) (a3 : Int32) (a4 : Int32) (a6 : Int32) (s0 : Int32) (s1 : Int32) : Option ((Int32) ⊕ (Int32 × Int32)) :=
  some ((.inr ((s1 + s0), (a6 + 1))))
set_option maxHeartbeats 4000000 in
set_option maxRecDepth 100000 in
theorem g_X7_answers_68 {X : CT} {lim : Nat} {M : MM} {p0 : Nat} {a2 : Int32} {a3 : Int32} {a4 : Int32} {a6 : Int32} {s0 : Int32} {s1 : Int32} (O : OKX X cX7_answers RX7 4 lim 7) (hi : True) (hn : M.1 ≤ lim) {o : (Int32) ⊕ (Int32 × Int32)} (h : j_X7_answers_68 M p0 a2 a3 a4 a6 s0 s1 = some o) (hK : (KI (fun (q : Int32) => RTX X (some .int) (some (.int q)) M) (fun (t : Int32 × Int32) => WS X M 40 [(0, rf X.1 p0), (2, .int a2), (3, .int a3), (4, .int a4), (5, .int t.1), (6, .int t.2)] [])) o) : WS X M 68 [(0, rf X.1 p0), (2, .int a2), (3, .int a3), (4, .int a4), (6, .int a6)] [.int s0, .int s1] := by
  unfold j_X7_answers_68 at h
  refine s_iadd (pc := 68) O dX7_answers_68 ?_
  refine s_istore (pc := 69) O (loc' := [(5, .int (s1 + s0)), (0, rf X.1 p0), (2, .int a2), (3, .int a3), (4, .int a4), (6, .int a6)]) dX7_answers_69 (by decide) rfl ?_
  refine s_iinc (pc := 71) O (v := (a6 + 1)) (loc' := [(6, .int (a6 + 1)), (5, .int (s1 + s0)), (0, rf X.1 p0), (2, .int a2), (3, .int a3), (4, .int a4)]) dX7_answers_71 5 rfl rfl (by decide) rfl ?_
  refine s_goto (pc := 74) O (tgt := 40) dX7_answers_74 (by decide) ?_
  cases h
  exact s_sub (pc := 40) O [2, 3, 4, 5, 1, 0] rfl hK
def z_X7_answers_40 (M : MM) (p0 : Nat) (a2 : Int32) (a3 : Int32) (a4 : Int32) (a5 : Int32) (a6 : Int32) : Option ((Int32) ⊕ (Int32 × Int32)) :=
  (fI M p0 7 12).bind fun v1 => if v1 ≤ a6 then (((f_X7_bestOf M p0 a4 a2).bind fun v2 => if a3 = 0 then (some a5) else (if v2 = (-9) then (some ((-9))) else ((fR M p0 7 8).bind fun v3 => (aI M v3 v2).bind fun v4 => some v4))).map .inl) else ((f_X7_isAnswer M p0 a4 a6 a2).bind fun v5 => if v5 = 0 then (j_X7_answers_68 M p0 a2 a3 a4 a6 0 a5) else (j_X7_answers_68 M p0 a2 a3 a4 a6 1 a5))
set_option maxHeartbeats 4000000 in
set_option maxRecDepth 100000 in
theorem b_X7_answers_40 {X : CT} {lim : Nat} {M : MM} {p0 : Nat} {a2 : Int32} {a3 : Int32} {a4 : Int32} {a5 : Int32} {a6 : Int32} (O : OKX X cX7_answers RX7 4 lim 7) (hi : True) (hn : M.1 ≤ lim) {o : (Int32) ⊕ (Int32 × Int32)} (h : z_X7_answers_40 M p0 a2 a3 a4 a5 a6 = some o) (hK : (KI (fun (q : Int32) => RTX X (some .int) (some (.int q)) M) (fun (t : Int32 × Int32) => WS X M 40 [(0, rf X.1 p0), (2, .int a2), (3, .int a3), (4, .int a4), (5, .int t.1), (6, .int t.2)] [])) o) : WS X M 40 [(0, rf X.1 p0), (2, .int a2), (3, .int a3), (4, .int a4), (5, .int a5), (6, .int a6)] [] := by
  unfold z_X7_answers_40 at h
  refine s_iload (pc := 40) O dX7_answers_40 5 rfl ?_
  refine s_aload_n (pc := 42) O dX7_answers_42 rfl 0 rfl ?_
  obtain ⟨v1, e, h⟩ := bd h
  refine s_getI (pc := 43) O kc7 (k := 12) rfl tw_683 e dX7_answers_43 ?_
  refine s_icmp_ge (pc := 46) O (tgt := 77) dX7_answers_46 (by decide) (fun c => ?_) (fun c => ?_)
  · have h := ifp c h
    obtain ⟨q0, hq0, ho0⟩ := mpi h; subst ho0; replace h := hq0
    refine s_aload_n (pc := 77) O dX7_answers_77 rfl 0 rfl ?_
    refine s_iload (pc := 78) O dX7_answers_78 3 rfl ?_
    refine s_iload_n (pc := 80) O dX7_answers_80 rfl 1 rfl ?_
    obtain ⟨v2, e, h⟩ := bd h
    refine s_callVi (pc := 81) O (As := [.int a4, .int a2]) kc7 (c_X7_bestOf (G := X.1) e) cy_X7_bestOf tw_843 tw_845 tw_35 (by decide) rfl (Nat.le_refl _) hn (r_X7_bestOf e).1 (r_X7_bestOf e).2 rfl (Nat.le_of_ble_eq_true rfl) dX7_answers_81 ?_
    refine s_istore (pc := 84) O (loc' := [(6, .int v2), (0, rf X.1 p0), (2, .int a2), (3, .int a3), (4, .int a4), (5, .int a5)]) dX7_answers_84 (by decide) rfl ?_
    refine s_iload_n (pc := 86) O dX7_answers_86 rfl 3 rfl ?_
    refine s_if_ne (pc := 87) O (tgt := 95) dX7_answers_87 (by decide) (fun c => ?_) (fun c => ?_)
    · have h := ifn c h
      refine s_iload (pc := 95) O dX7_answers_95 0 rfl ?_
      refine s_bipush (pc := 97) O (v := (-9)) dX7_answers_97 (by decide) ?_
      refine s_icmp_ne (pc := 99) O (tgt := 107) dX7_answers_99 (by decide) (fun c => ?_) (fun c => ?_)
      · have h := ifn c h
        refine s_aload_n (pc := 107) O dX7_answers_107 rfl 1 rfl ?_
        obtain ⟨v3, e, h⟩ := bd h
        refine s_getR (pc := 108) O kc7 (k := 8) rfl tw_679 e dX7_answers_108 ?_
        refine s_iload (pc := 111) O dX7_answers_111 0 rfl ?_
        obtain ⟨v4, e, h⟩ := bd h
        refine s_aldI (pc := 113) O e dX7_answers_113 ?_
        cases h
        exact s_iret (pc := 114) O hK dX7_answers_114
      · have h := ifp c h
        refine s_bipush (pc := 102) O (v := (-9)) dX7_answers_102 (by decide) ?_
        refine s_goto (pc := 104) O (tgt := 114) dX7_answers_104 (by decide) ?_
        cases h
        exact s_iret (pc := 114) O hK dX7_answers_114
    · have h := ifp c h
      refine s_iload (pc := 90) O dX7_answers_90 5 rfl ?_
      refine s_goto (pc := 92) O (tgt := 114) dX7_answers_92 (by decide) ?_
      cases h
      exact s_iret (pc := 114) O hK dX7_answers_114
  · have h := ifn c h
    refine s_iload (pc := 49) O dX7_answers_49 4 rfl ?_
    refine s_aload_n (pc := 51) O dX7_answers_51 rfl 0 rfl ?_
    refine s_iload (pc := 52) O dX7_answers_52 3 rfl ?_
    refine s_iload (pc := 54) O dX7_answers_54 5 rfl ?_
    refine s_iload_n (pc := 56) O dX7_answers_56 rfl 1 rfl ?_
    obtain ⟨v5, e, h⟩ := bd h
    refine s_callVi (pc := 57) O (As := [.int a4, .int a6, .int a2]) kc7 (c_X7_isAnswer (G := X.1) e) cy_X7_isAnswer tw_836 tw_838 tw_34 (by decide) rfl (Nat.le_refl _) hn (r_X7_isAnswer e).1 (r_X7_isAnswer e).2 rfl (Nat.le_of_ble_eq_true rfl) dX7_answers_57 ?_
    refine s_if_eq (pc := 60) O (tgt := 67) dX7_answers_60 (by decide) (fun c => ?_) (fun c => ?_)
    · have h := ifp c h
      refine s_iconst (pc := 67) O (v := 0) dX7_answers_67 (by decide) ?_
      exact s_sub (pc := 68) O [0, 1, 2, 3, 5] rfl (g_X7_answers_68 O hi hn h hK)
    · have h := ifn c h
      refine s_iconst (pc := 63) O (v := 1) dX7_answers_63 (by decide) ?_
      refine s_goto (pc := 64) O (tgt := 68) dX7_answers_64 (by decide) ?_
      exact s_sub (pc := 68) O [0, 1, 2, 3, 5] rfl (g_X7_answers_68 O hi hn h hK)
set_option maxHeartbeats 4000000 in
set_option maxRecDepth 100000 in
theorem l_X7_answers_40 {X : CT} {lim : Nat} {M : MM} {p0 : Nat} {a2 : Int32} {a3 : Int32} {a4 : Int32} {a5 : Int32} {a6 : Int32} (O : OKX X cX7_answers RX7 4 lim 7) (hi : True) (hn : M.1 ≤ lim) {o : Int32} {n : Nat} (h : lp (fun t => z_X7_answers_40 M p0 a2 a3 a4 t.1 t.2) n (a5, a6) = some o) (hK : (fun (q : Int32) => RTX X (some .int) (some (.int q)) M) o) : WS X M 40 [(0, rf X.1 p0), (2, .int a2), (3, .int a3), (4, .int a4), (5, .int a5), (6, .int a6)] [] := by
  refine lp_ind (P := fun (o : Int32) (t : Int32 × Int32) => (fun (q : Int32) => RTX X (some .int) (some (.int q)) M) o → WS X M 40 [(0, rf X.1 p0), (2, .int a2), (3, .int a3), (4, .int a4), (5, .int t.1), (6, .int t.2)] []) (fun t o hs  hK => ?_) n (a5, a6) o h  hK
  rcases hs with h | ⟨u, h, hu⟩
  · exact b_X7_answers_40 O hi hn h hK
  · exact b_X7_answers_40 O hi hn h (show KI _ _ (.inr u) from hu hK)
def f_X7_answers (M : MM) (p0 : Nat) (a1 : Int32) (a2 : Int32) (a3 : Int32) : Option (Int32) :=
  if p0 < M.1 ∧ kd p0 = 7 then ((f_X7_placeOf M p0 a1).bind fun v1 => if v1 = (-9) then (some ((-1))) else ((f_X7_in M a2 0 2).bind fun v2 => if v2 = 0 then (some ((-1))) else ((f_X7_in M a3 0 1).bind fun v3 => if v3 = 0 then (some ((-1))) else (lp (fun t => z_X7_answers_40 M p0 a2 a3 v1 t.1 t.2) FU (0, 0))))) else none
theorem r_X7_answers {M : MM} {p0 : Nat} {a1 : Int32} {a2 : Int32} {a3 : Int32} {o : Int32} (h : f_X7_answers M p0 a1 a2 a3 = some o) : p0 < M.1 ∧ kd p0 = 7 := by
  unfold f_X7_answers at h
  exact (gd h).1
theorem cy_X7_answers : CallY yX7_answers cX7_answers 7 (some .int) 3 := ⟨by decide +kernel, tw_835, tw_47, by decide⟩
set_option maxHeartbeats 4000000 in
set_option maxRecDepth 100000 in
theorem c_X7_answers {G : GG} {M : MM} {p0 : Nat} {a1 : Int32} {a2 : Int32} {a3 : Int32} {r : Int32} (h : f_X7_answers M p0 a1 a2 a3 = some r) : Ct G yX7_answers cX7_answers 7 (some .int) 4 [rf G p0, .int a1, .int a2, .int a3] M (some (.int r)) M := by
  refine ct_of (by decide +kernel) (Nat.le_of_ble_eq_true rfl) (fun X hX O hK hi0 => ?_)
  subst hX
  obtain ⟨lim, hlim⟩ : ∃ z, z = M.1 := ⟨_, rfl⟩
  rw [← hlim] at O
  replace O : OKX X cX7_answers RX7 4 lim 7 := O
  have hi : True := trivial
  have hn : M.1 ≤ lim := Nat.le_of_eq hlim.symm
  show WS X M 0 [(0, rf X.1 p0), (1, .int a1), (2, .int a2), (3, .int a3)] []
  unfold f_X7_answers at h
  obtain ⟨hg0, h⟩ := gd h
  refine s_aload_n (pc := 0) O dX7_answers_0 rfl 0 rfl ?_
  refine s_iload_n (pc := 1) O dX7_answers_1 rfl 1 rfl ?_
  obtain ⟨v1, e, h⟩ := bd h
  refine s_callVi (pc := 2) O (As := [.int a1]) kc7 (c_X7_placeOf (G := X.1) e) cy_X7_placeOf tw_801 tw_803 tw_33 (by decide) rfl (Nat.le_refl _) hn (r_X7_placeOf e).1 (r_X7_placeOf e).2 rfl (Nat.le_of_ble_eq_true rfl) dX7_answers_2 ?_
  refine s_istore (pc := 5) O (loc' := [(4, .int v1), (0, rf X.1 p0), (1, .int a1), (2, .int a2), (3, .int a3)]) dX7_answers_5 (by decide) rfl ?_
  refine s_iload (pc := 7) O dX7_answers_7 0 rfl ?_
  refine s_bipush (pc := 9) O (v := (-9)) dX7_answers_9 (by decide) ?_
  refine s_icmp_eq (pc := 11) O (tgt := 32) dX7_answers_11 (by decide) (fun c => ?_) (fun c => ?_)
  · have h := ifp c h
    refine s_iconst (pc := 32) O (v := (-1)) dX7_answers_32 (by decide) ?_
    cases h
    exact s_iret (pc := 33) O hK dX7_answers_33
  · have h := ifn c h
    refine s_iload_n (pc := 14) O dX7_answers_14 rfl 3 rfl ?_
    refine s_iconst (pc := 15) O (v := 0) dX7_answers_15 (by decide) ?_
    refine s_iconst (pc := 16) O (v := 2) dX7_answers_16 (by decide) ?_
    obtain ⟨v2, e, h⟩ := bd h
    refine s_callSi (pc := 17) O (As := [.int a2, .int 0, .int 2]) (c_X7_in (G := X.1) e) cy_X7_in tw_660 tw_661 (by decide) rfl (Nat.le_refl _) hn rfl (Nat.le_of_ble_eq_true rfl) dX7_answers_17 ?_
    refine s_if_eq (pc := 20) O (tgt := 32) dX7_answers_20 (by decide) (fun c => ?_) (fun c => ?_)
    · have h := ifp c h
      refine s_iconst (pc := 32) O (v := (-1)) dX7_answers_32 (by decide) ?_
      cases h
      exact s_iret (pc := 33) O hK dX7_answers_33
    · have h := ifn c h
      refine s_iload_n (pc := 23) O dX7_answers_23 rfl 4 rfl ?_
      refine s_iconst (pc := 24) O (v := 0) dX7_answers_24 (by decide) ?_
      refine s_iconst (pc := 25) O (v := 1) dX7_answers_25 (by decide) ?_
      obtain ⟨v3, e, h⟩ := bd h
      refine s_callSi (pc := 26) O (As := [.int a3, .int 0, .int 1]) (c_X7_in (G := X.1) e) cy_X7_in tw_660 tw_661 (by decide) rfl (Nat.le_refl _) hn rfl (Nat.le_of_ble_eq_true rfl) dX7_answers_26 ?_
      refine s_if_ne (pc := 29) O (tgt := 34) dX7_answers_29 (by decide) (fun c => ?_) (fun c => ?_)
      · have h := ifn c h
        refine s_iconst (pc := 34) O (v := 0) dX7_answers_34 (by decide) ?_
        refine s_istore (pc := 35) O (loc' := [(5, .int 0), (4, .int v1), (0, rf X.1 p0), (1, .int a1), (2, .int a2), (3, .int a3)]) dX7_answers_35 (by decide) rfl ?_
        refine s_iconst (pc := 37) O (v := 0) dX7_answers_37 (by decide) ?_
        refine s_istore (pc := 38) O (loc' := [(6, .int 0), (5, .int 0), (4, .int v1), (0, rf X.1 p0), (1, .int a1), (2, .int a2), (3, .int a3)]) dX7_answers_38 (by decide) rfl ?_
        exact s_sub (pc := 40) O [3, 5, 6, 2, 1, 0] rfl (l_X7_answers_40 O hi hn h hK)
      · have h := ifp c h
        refine s_iconst (pc := 32) O (v := (-1)) dX7_answers_32 (by decide) ?_
        cases h
        exact s_iret (pc := 33) O hK dX7_answers_33

