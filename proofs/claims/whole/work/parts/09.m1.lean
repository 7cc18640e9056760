def z_X7_letter_29 (M : MM) (p0 : Nat) (a2 : Int32) (a3 : Int32) (a4 : Int32) (a5 : Int32) : Option ((Int32) ⊕ (Int32 × Int32)) :=
  if (8 : Int32) ≤ a5 then ((if a2 = 0 then ((fR M p0 7 10).bind fun v3 => (aI M v3 a3).bind fun v4 => some v4) else (if a2 = 1 then ((fR M p0 7 11).bind fun v1 => (aI M v1 a3).bind fun v2 => some v2) else (some a4))).map .inl) else ((fR M p0 7 9).bind fun v5 => (aI M v5 a3).bind fun v6 => (f_X7_countOf M v6 a5).bind fun v7 => some ((.inr ((a4 + v7), (a5 + 1)))))
set_option maxHeartbeats 4000000 in
set_option maxRecDepth 100000 in
theorem b_X7_letter_29 {X : CT} {lim : Nat} {M : MM} {p0 : Nat} {a2 : Int32} {a3 : Int32} {a4 : Int32} {a5 : Int32} (O : OKX X cX7_letter RX7 1 lim 6) (hi : True) (hn : M.1 ≤ lim) {o : (Int32) ⊕ (Int32 × Int32)} (h : z_X7_letter_29 M p0 a2 a3 a4 a5 = some o) (hK : (KI (fun (q : Int32) => RTX X (some .int) (some (.int q)) M) (fun (t : Int32 × Int32) => WS X M 29 [(0, rf X.1 p0), (2, .int a2), (3, .int a3), (4, .int t.1), (5, .int t.2)] [])) o) : WS X M 29 [(0, rf X.1 p0), (2, .int a2), (3, .int a3), (4, .int a4), (5, .int a5)] [] := by
  unfold z_X7_letter_29 at h
  refine s_iload (pc := 29) O dX7_letter_29 4 rfl ?_
  refine s_bipush (pc := 31) O (v := 8) dX7_letter_31 (by decide) ?_
  refine s_icmp_ge (pc := 33) O (tgt := 58) dX7_letter_33 (by decide) (fun c => ?_) (fun c => ?_)
  · have h := ifp c h
    obtain ⟨q0, hq0, ho0⟩ := mpi h; subst ho0; replace h := hq0
    refine s_iload_n (pc := 58) O dX7_letter_58 rfl 1 rfl ?_
    refine s_if_ne (pc := 59) O (tgt := 71) dX7_letter_59 (by decide) (fun c => ?_) (fun c => ?_)
    · have h := ifn c h
      refine s_iload_n (pc := 71) O dX7_letter_71 rfl 1 rfl ?_
      refine s_iconst (pc := 72) O (v := 1) dX7_letter_72 (by decide) ?_
      refine s_icmp_ne (pc := 73) O (tgt := 85) dX7_letter_73 (by decide) (fun c => ?_) (fun c => ?_)
      · have h := ifn c h
        refine s_iload (pc := 85) O dX7_letter_85 3 rfl ?_
        cases h
        exact s_iret (pc := 87) O hK dX7_letter_87
      · have h := ifp c h
        refine s_aload_n (pc := 76) O dX7_letter_76 rfl 0 rfl ?_
        obtain ⟨v1, e, h⟩ := bd h
        refine s_getR (pc := 77) O kc7 (k := 11) rfl tw_682 e dX7_letter_77 ?_
        refine s_iload_n (pc := 80) O dX7_letter_80 rfl 2 rfl ?_
        obtain ⟨v2, e, h⟩ := bd h
        refine s_aldI (pc := 81) O e dX7_letter_81 ?_
        refine s_goto (pc := 82) O (tgt := 87) dX7_letter_82 (by decide) ?_
        cases h
        exact s_iret (pc := 87) O hK dX7_letter_87
    · have h := ifp c h
      refine s_aload_n (pc := 62) O dX7_letter_62 rfl 0 rfl ?_
      obtain ⟨v3, e, h⟩ := bd h
      refine s_getR (pc := 63) O kc7 (k := 10) rfl tw_681 e dX7_letter_63 ?_
      refine s_iload_n (pc := 66) O dX7_letter_66 rfl 2 rfl ?_
      obtain ⟨v4, e, h⟩ := bd h
      refine s_aldI (pc := 67) O e dX7_letter_67 ?_
      refine s_goto (pc := 68) O (tgt := 87) dX7_letter_68 (by decide) ?_
      cases h
      exact s_iret (pc := 87) O hK dX7_letter_87
  · have h := ifn c h
    refine s_iload (pc := 36) O dX7_letter_36 3 rfl ?_
    refine s_aload_n (pc := 38) O dX7_letter_38 rfl 0 rfl ?_
    obtain ⟨v5, e, h⟩ := bd h
    refine s_getR (pc := 39) O kc7 (k := 9) rfl tw_680 e dX7_letter_39 ?_
    refine s_iload_n (pc := 42) O dX7_letter_42 rfl 2 rfl ?_
    obtain ⟨v6, e, h⟩ := bd h
    refine s_aldI (pc := 43) O e dX7_letter_43 ?_
    refine s_iload (pc := 44) O dX7_letter_44 4 rfl ?_
    obtain ⟨v7, e, h⟩ := bd h
    refine s_callSi (pc := 46) O (As := [.int v6, .int a5]) (c_X7_countOf (G := X.1) e) cy_X7_countOf tw_805 tw_806 (by decide) rfl (Nat.le_refl _) hn rfl (Nat.le_of_ble_eq_true rfl) dX7_letter_46 ?_
    refine s_iadd (pc := 49) O dX7_letter_49 ?_
    refine s_istore (pc := 50) O (loc' := [(4, .int (a4 + v7)), (0, rf X.1 p0), (2, .int a2), (3, .int a3), (5, .int a5)]) dX7_letter_50 (by decide) rfl ?_
    refine s_iinc (pc := 52) O (v := (a5 + 1)) (loc' := [(5, .int (a5 + 1)), (4, .int (a4 + v7)), (0, rf X.1 p0), (2, .int a2), (3, .int a3)]) dX7_letter_52 4 rfl rfl (by decide) rfl ?_
    refine s_goto (pc := 55) O (tgt := 29) dX7_letter_55 (by decide) ?_
    cases h
    exact s_sub (pc := 29) O [2, 3, 4, 1, 0] rfl hK
set_option maxHeartbeats 4000000 in
set_option maxRecDepth 100000 in
theorem l_X7_letter_29 {X : CT} {lim : Nat} {M : MM} {p0 : Nat} {a2 : Int32} {a3 : Int32} {a4 : Int32} {a5 : Int32} (O : OKX X cX7_letter RX7 1 lim 6) (hi : True) (hn : M.1 ≤ lim) {o : Int32} {n : Nat} (h : lp (fun t => z_X7_letter_29 M p0 a2 a3 t.1 t.2) n (a4, a5) = some o) (hK : (fun (q : Int32) => RTX X (some .int) (some (.int q)) M) o) : WS X M 29 [(0, rf X.1 p0), (2, .int a2), (3, .int a3), (4, .int a4), (5, .int a5)] [] := by
  refine lp_ind (P := fun (o : Int32) (t : Int32 × Int32) => (fun (q : Int32) => RTX X (some .int) (some (.int q)) M) o → WS X M 29 [(0, rf X.1 p0), (2, .int a2), (3, .int a3), (4, .int t.1), (5, .int t.2)] []) (fun t o hs  hK => ?_) n (a4, a5) o h  hK
  rcases hs with h | ⟨u, h, hu⟩
  · exact b_X7_letter_29 O hi hn h hK
  · exact b_X7_letter_29 O hi hn h (show KI _ _ (.inr u) from hu hK)
def f_X7_letter (M : MM) (p0 : Nat) (a1 : Int32) (a2 : Int32) : Option (Int32) :=
  if p0 < M.1 ∧ kd p0 = 7 then ((f_X7_placeOf M p0 a1).bind fun v1 => if v1 = (-9) then (some ((-1))) else ((f_X7_in M a2 0 2).bind fun v2 => if v2 = 0 then (some ((-1))) else (lp (fun t => z_X7_letter_29 M p0 a2 v1 t.1 t.2) FU (0, 0)))) else none
theorem r_X7_letter {M : MM} {p0 : Nat} {a1 : Int32} {a2 : Int32} {o : Int32} (h : f_X7_letter M p0 a1 a2 = some o) : p0 < M.1 ∧ kd p0 = 7 := by
  unfold f_X7_letter at h
  exact (gd h).1
theorem cy_X7_letter : CallY yX7_letter cX7_letter 6 (some .int) 2 := ⟨by decide +kernel, tw_800, tw_47, by decide⟩
set_option maxHeartbeats 4000000 in
set_option maxRecDepth 100000 in
theorem c_X7_letter {G : GG} {M : MM} {p0 : Nat} {a1 : Int32} {a2 : Int32} {r : Int32} (h : f_X7_letter M p0 a1 a2 = some r) : Ct G yX7_letter cX7_letter 6 (some .int) 1 [rf G p0, .int a1, .int a2] M (some (.int r)) M := by
  refine ct_of (by decide +kernel) (Nat.le_of_ble_eq_true rfl) (fun X hX O hK hi0 => ?_)
  subst hX
  obtain ⟨lim, hlim⟩ : ∃ z, z = M.1 := ⟨_, rfl⟩
  rw [← hlim] at O
  replace O : OKX X cX7_letter RX7 1 lim 6 := O
  have hi : True := trivial
  have hn : M.1 ≤ lim := Nat.le_of_eq hlim.symm
  show WS X M 0 [(0, rf X.1 p0), (1, .int a1), (2, .int a2)] []
  unfold f_X7_letter at h
  obtain ⟨hg0, h⟩ := gd h
  refine s_aload_n (pc := 0) O dX7_letter_0 rfl 0 rfl ?_
  refine s_iload_n (pc := 1) O dX7_letter_1 rfl 1 rfl ?_
  obtain ⟨v1, e, h⟩ := bd h
  refine s_callVi (pc := 2) O (As := [.int a1]) kc7 (c_X7_placeOf (G := X.1) e) cy_X7_placeOf tw_801 tw_803 tw_33 (by decide) rfl (Nat.le_refl _) hn (r_X7_placeOf e).1 (r_X7_placeOf e).2 rfl (Nat.le_of_ble_eq_true rfl) dX7_letter_2 ?_
  refine s_istore_n (pc := 5) O (loc' := [(3, .int v1), (0, rf X.1 p0), (1, .int a1), (2, .int a2)]) dX7_letter_5 rfl (by decide) rfl ?_
  refine s_iload_n (pc := 6) O dX7_letter_6 rfl 0 rfl ?_
  refine s_bipush (pc := 7) O (v := (-9)) dX7_letter_7 (by decide) ?_
  refine s_icmp_eq (pc := 9) O (tgt := 21) dX7_letter_9 (by decide) (fun c => ?_) (fun c => ?_)
  · have h := ifp c h
    refine s_iconst (pc := 21) O (v := (-1)) dX7_letter_21 (by decide) ?_
    cases h
    exact s_iret (pc := 22) O hK dX7_letter_22
  · have h := ifn c h
    refine s_iload_n (pc := 12) O dX7_letter_12 rfl 3 rfl ?_
    refine s_iconst (pc := 13) O (v := 0) dX7_letter_13 (by decide) ?_
    refine s_iconst (pc := 14) O (v := 2) dX7_letter_14 (by decide) ?_
    obtain ⟨v2, e, h⟩ := bd h
    refine s_callSi (pc := 15) O (As := [.int a2, .int 0, .int 2]) (c_X7_in (G := X.1) e) cy_X7_in tw_660 tw_661 (by decide) rfl (Nat.le_refl _) hn rfl (Nat.le_of_ble_eq_true rfl) dX7_letter_15 ?_
    refine s_if_ne (pc := 18) O (tgt := 23) dX7_letter_18 (by decide) (fun c => ?_) (fun c => ?_)
    · have h := ifn c h
      refine s_iconst (pc := 23) O (v := 0) dX7_letter_23 (by decide) ?_
      refine s_istore (pc := 24) O (loc' := [(4, .int 0), (3, .int v1), (0, rf X.1 p0), (1, .int a1), (2, .int a2)]) dX7_letter_24 (by decide) rfl ?_
      refine s_iconst (pc := 26) O (v := 0) dX7_letter_26 (by decide) ?_
      refine s_istore (pc := 27) O (loc' := [(5, .int 0), (4, .int 0), (3, .int v1), (0, rf X.1 p0), (1, .int a1), (2, .int a2)]) dX7_letter_27 (by decide) rfl ?_
      exact s_sub (pc := 29) O [3, 5, 2, 1, 0] rfl (l_X7_letter_29 O hi hn h hK)
    · have h := ifp c h
      refine s_iconst (pc := 21) O (v := (-1)) dX7_letter_21 (by decide) ?_
      cases h
      exact s_iret (pc := 22) O hK dX7_letter_22

def j_X7_side_64 (M : MM) (p0 : Nat) (a1 : Int32) (a3 : Int32) (s0 : Int32) (s1 : Int32) : Option ((Int32) ⊕ (Int32 × Int32)) :=
  some ((.inr ((s1 + s0), (a3 + 1))))
set_option maxHeartbeats 4000000 in
set_option maxRecDepth 100000 in
theorem g_X7_side_64 {X : CT} {lim : Nat} {M : MM} {p0 : Nat} {a1 : Int32} {a3 : Int32} {s0 : Int32} {s1 : Int32} (O : OKX X cX7_side RX7 1 lim 5) (hi : True) (hn : M.1 ≤ lim) {o : (Int32) ⊕ (Int32 × Int32)} (h : j_X7_side_64 M p0 a1 a3 s0 s1 = some o) (hK : (KI (fun (q : Int32) => RTX X (some .int) (some (.int q)) M) (fun (t : Int32 × Int32) => WS X M 15 [(0, rf X.1 p0), (1, .int a1), (2, .int t.1), (3, .int t.2)] [])) o) : WS X M 64 [(0, rf X.1 p0), (1, .int a1), (3, .int a3)] [.int s0, .int s1] := by
  unfold j_X7_side_64 at h
  refine s_iadd (pc := 64) O dX7_side_64 ?_
  refine s_istore_n (pc := 65) O (loc' := [(2, .int (s1 + s0)), (0, rf X.1 p0), (1, .int a1), (3, .int a3)]) dX7_side_65 rfl (by decide) rfl ?_
  refine s_iinc (pc := 66) O (v := (a3 + 1)) (loc' := [(3, .int (a3 + 1)), (2, .int (s1 + s0)), (0, rf X.1 p0), (1, .int a1)]) dX7_side_66 3 rfl rfl (by decide) rfl ?_
  refine s_goto (pc := 69) O (tgt := 15) dX7_side_69 (by decide) ?_
  cases h
  exact s_sub (pc := 15) O [2, 3, 1, 0] rfl hK
def z_X7_side_15 (M : MM) (p0 : Nat) (a1 : Int32) (a2 : Int32) (a3 : Int32) : Option ((Int32) ⊕ (Int32 × Int32)) :=
  (fR M p0 7 5).bind fun v1 => (aI M v1 0).bind fun v2 => if v2 ≤ a3 then (some ((.inl a2))) else ((fR M p0 7 5).bind fun v3 => (aI M v3 ((a3 + 1))).bind fun v4 => (f_X7_placeOf M p0 v4).bind fun v5 => if (a3 - a3 / 2 * 2) = a1 then ((fR M p0 7 10).bind fun v8 => (aI M v8 v5).bind fun v9 => j_X7_side_64 M p0 a1 a3 v9 a2) else ((fR M p0 7 11).bind fun v6 => (aI M v6 v5).bind fun v7 => j_X7_side_64 M p0 a1 a3 v7 a2))
set_option maxHeartbeats 4000000 in
set_option maxRecDepth 100000 in
theorem b_X7_side_15 {X : CT} {lim : Nat} {M : MM} {p0 : Nat} {a1 : Int32} {a2 : Int32} {a3 : Int32} (O : OKX X cX7_side RX7 1 lim 5) (hi : True) (hn : M.1 ≤ lim) {o : (Int32) ⊕ (Int32 × Int32)} (h : z_X7_side_15 M p0 a1 a2 a3 = some o) (hK : (KI (fun (q : Int32) => RTX X (some .int) (some (.int q)) M) (fun (t : Int32 × Int32) => WS X M 15 [(0, rf X.1 p0), (1, .int a1), (2, .int t.1), (3, .int t.2)] [])) o) : WS X M 15 [(0, rf X.1 p0), (1, .int a1), (2, .int a2), (3, .int a3)] [] := by
  unfold z_X7_side_15 at h
  refine s_iload_n (pc := 15) O dX7_side_15 rfl 3 rfl ?_
  refine s_aload_n (pc := 16) O dX7_side_16 rfl 0 rfl ?_
  obtain ⟨v1, e, h⟩ := bd h
  refine s_getR (pc := 17) O kc7 (k := 5) rfl tw_676 e dX7_side_17 ?_
  refine s_iconst (pc := 20) O (v := 0) dX7_side_20 (by decide) ?_
  obtain ⟨v2, e, h⟩ := bd h
  refine s_aldI (pc := 21) O e dX7_side_21 ?_
  refine s_icmp_ge (pc := 22) O (tgt := 72) dX7_side_22 (by decide) (fun c => ?_) (fun c => ?_)
  · have h := ifp c h
    refine s_iload_n (pc := 72) O dX7_side_72 rfl 2 rfl ?_
    cases h
    exact s_iret (pc := 73) O hK dX7_side_73
  · have h := ifn c h
    refine s_aload_n (pc := 25) O dX7_side_25 rfl 0 rfl ?_
    refine s_aload_n (pc := 26) O dX7_side_26 rfl 0 rfl ?_
    obtain ⟨v3, e, h⟩ := bd h
    refine s_getR (pc := 27) O kc7 (k := 5) rfl tw_676 e dX7_side_27 ?_
    refine s_iload_n (pc := 30) O dX7_side_30 rfl 3 rfl ?_
    refine s_iconst (pc := 31) O (v := 1) dX7_side_31 (by decide) ?_
    refine s_iadd (pc := 32) O dX7_side_32 ?_
    obtain ⟨v4, e, h⟩ := bd h
    refine s_aldI (pc := 33) O e dX7_side_33 ?_
    obtain ⟨v5, e, h⟩ := bd h
    refine s_callVi (pc := 34) O (As := [.int v4]) kc7 (c_X7_placeOf (G := X.1) e) cy_X7_placeOf tw_801 tw_803 tw_33 (by decide) rfl (Nat.le_refl _) hn (r_X7_placeOf e).1 (r_X7_placeOf e).2 rfl (Nat.le_of_ble_eq_true rfl) dX7_side_34 ?_
    refine s_istore (pc := 37) O (loc' := [(4, .int v5), (0, rf X.1 p0), (1, .int a1), (2, .int a2), (3, .int a3)]) dX7_side_37 (by decide) rfl ?_
    refine s_iload_n (pc := 39) O dX7_side_39 rfl 3 rfl ?_
    refine s_iload_n (pc := 40) O dX7_side_40 rfl 4 rfl ?_
    refine s_iconst (pc := 41) O (v := 2) dX7_side_41 (by decide) ?_
    refine s_irem (pc := 42) O dX7_side_42 (by decide) ?_
    refine s_iload_n (pc := 43) O dX7_side_43 rfl 2 rfl ?_
    refine s_icmp_ne (pc := 44) O (tgt := 57) dX7_side_44 (by decide) (fun c => ?_) (fun c => ?_)
    · have h := ifn c h
      refine s_aload_n (pc := 57) O dX7_side_57 rfl 1 rfl ?_
      obtain ⟨v6, e, h⟩ := bd h
      refine s_getR (pc := 58) O kc7 (k := 11) rfl tw_682 e dX7_side_58 ?_
      refine s_iload (pc := 61) O dX7_side_61 0 rfl ?_
      obtain ⟨v7, e, h⟩ := bd h
      refine s_aldI (pc := 63) O e dX7_side_63 ?_
      exact s_sub (pc := 64) O [1, 2, 4] rfl (g_X7_side_64 O hi hn h hK)
    · have h := ifp c h
      refine s_aload_n (pc := 47) O dX7_side_47 rfl 1 rfl ?_
      obtain ⟨v8, e, h⟩ := bd h
      refine s_getR (pc := 48) O kc7 (k := 10) rfl tw_681 e dX7_side_48 ?_
      refine s_iload (pc := 51) O dX7_side_51 0 rfl ?_
      obtain ⟨v9, e, h⟩ := bd h
      refine s_aldI (pc := 53) O e dX7_side_53 ?_
      refine s_goto (pc := 54) O (tgt := 64) dX7_side_54 (by decide) ?_
      exact s_sub (pc := 64) O [1, 2, 4] rfl (g_X7_side_64 O hi hn h hK)
set_option maxHeartbeats 4000000 in
set_option maxRecDepth 100000 in
theorem l_X7_side_15 {X : CT} {lim : Nat} {M : MM} {p0 : Nat} {a1 : Int32} {a2 : Int32} {a3 : Int32} (O : OKX X cX7_side RX7 1 lim 5) (hi : True) (hn : M.1 ≤ lim) {o : Int32} {n : Nat} (h : lp (fun t => z_X7_side_15 M p0 a1 t.1 t.2) n (a2, a3) = some o) (hK : (fun (q : Int32) => RTX X (some .int) (some (.int q)) M) o) : WS X M 15 [(0, rf X.1 p0), (1, .int a1), (2, .int a2), (3, .int a3)] [] := by
  refine lp_ind (P := fun (o : Int32) (t : Int32 × Int32) => (fun (q : Int32) => RTX X (some .int) (some (.int q)) M) o → WS X M 15 [(0, rf X.1 p0), (1, .int a1), (2, .int t.1), (3, .int t.2)] []) (fun t o hs  hK => ?_) n (a2, a3) o h  hK
  rcases hs with h | ⟨u, h, hu⟩
  · exact b_X7_side_15 O hi hn h hK
  · exact b_X7_side_15 O hi hn h (show KI _ _ (.inr u) from hu hK)
def f_X7_side (M : MM) (p0 : Nat) (a1 : Int32) : Option (Int32) :=
  if p0 < M.1 ∧ kd p0 = 7 then ((f_X7_in M a1 0 1).bind fun v1 => if v1 = 0 then (some ((-1))) else (lp (fun t => z_X7_side_15 M p0 a1 t.1 t.2) FU (0, 0))) else none
theorem r_X7_side {M : MM} {p0 : Nat} {a1 : Int32} {o : Int32} (h : f_X7_side M p0 a1 = some o) : p0 < M.1 ∧ kd p0 = 7 := by
  unfold f_X7_side at h
  exact (gd h).1
theorem cy_X7_side : CallY yX7_side cX7_side 5 (some .int) 1 := ⟨by decide +kernel, tw_827, tw_47, by decide⟩
set_option maxHeartbeats 4000000 in
set_option maxRecDepth 100000 in
theorem c_X7_side {G : GG} {M : MM} {p0 : Nat} {a1 : Int32} {r : Int32} (h : f_X7_side M p0 a1 = some r) : Ct G yX7_side cX7_side 5 (some .int) 1 [rf G p0, .int a1] M (some (.int r)) M := by
  refine ct_of (by decide +kernel) (Nat.le_of_ble_eq_true rfl) (fun X hX O hK hi0 => ?_)
  subst hX
  obtain ⟨lim, hlim⟩ : ∃ z, z = M.1 := ⟨_, rfl⟩
  rw [← hlim] at O
  replace O : OKX X cX7_side RX7 1 lim 5 := O
  have hi : True := trivial
  have hn : M.1 ≤ lim := Nat.le_of_eq hlim.symm
  show WS X M 0 [(0, rf X.1 p0), (1, .int a1)] []
  unfold f_X7_side at h
  obtain ⟨hg0, h⟩ := gd h
  refine s_iload_n (pc := 0) O dX7_side_0 rfl 1 rfl ?_
  refine s_iconst (pc := 1) O (v := 0) dX7_side_1 (by decide) ?_
  refine s_iconst (pc := 2) O (v := 1) dX7_side_2 (by decide) ?_
  obtain ⟨v1, e, h⟩ := bd h
  refine s_callSi (pc := 3) O (As := [.int a1, .int 0, .int 1]) (c_X7_in (G := X.1) e) cy_X7_in tw_660 tw_661 (by decide) rfl (Nat.le_refl _) hn rfl (Nat.le_of_ble_eq_true rfl) dX7_side_3 ?_
  refine s_if_ne (pc := 6) O (tgt := 11) dX7_side_6 (by decide) (fun c => ?_) (fun c => ?_)
  · have h := ifn c h
    refine s_iconst (pc := 11) O (v := 0) dX7_side_11 (by decide) ?_
    refine s_istore_n (pc := 12) O (loc' := [(2, .int 0), (0, rf X.1 p0), (1, .int a1)]) dX7_side_12 rfl (by decide) rfl ?_
    refine s_iconst (pc := 13) O (v := 0) dX7_side_13 (by decide) ?_
    refine s_istore_n (pc := 14) O (loc' := [(3, .int 0), (2, .int 0), (0, rf X.1 p0), (1, .int a1)]) dX7_side_14 rfl (by decide) rfl ?_
    exact s_sub (pc := 15) O [2, 3, 1, 0] rfl (l_X7_side_15 O hi hn h hK)
  · have h := ifp c h
    refine s_iconst (pc := 9) O (v := (-1)) dX7_side_9 (by decide) ?_
    cases h
    exact s_iret (pc := 10) O hK dX7_side_10

def f_X7_sortOf (M : MM) (a0 : Int32) : Option (Int32) :=
  if (0 : Int32) ≤ a0 then ((f_X7_in M a0 97 122).bind fun v1 => if v1 = 0 then ((f_X7_in M a0 48 57).bind fun v2 => if v2 = 0 then (if a0 = 59 then (some 3) else (some 4)) else (some 2)) else (some 1)) else (some 0)
theorem cy_X7_sortOf : CallY yX7_sortOf cX7_sortOf 1 (some .int) 1 := ⟨by decide +kernel, tw_753, tw_47, by decide⟩
set_option maxHeartbeats 4000000 in
set_option maxRecDepth 100000 in
theorem c_X7_sortOf {G : GG} {M : MM} {a0 : Int32} {r : Int32} (h : f_X7_sortOf M a0 = some r) : Ct G yX7_sortOf cX7_sortOf 1 (some .int) 1 [.int a0] M (some (.int r)) M := by
  refine ct_of (by decide +kernel) (Nat.le_of_ble_eq_true rfl) (fun X hX O hK hi0 => ?_)
  subst hX
  obtain ⟨lim, hlim⟩ : ∃ z, z = M.1 := ⟨_, rfl⟩
  rw [← hlim] at O
  replace O : OKX X cX7_sortOf RX7 1 lim 1 := O
  have hi : True := trivial
  have hn : M.1 ≤ lim := Nat.le_of_eq hlim.symm
  show WS X M 0 [(0, .int a0)] []
  unfold f_X7_sortOf at h
  refine s_iload_n (pc := 0) O dX7_sortOf_0 rfl 0 rfl ?_
  refine s_if_ge (pc := 1) O (tgt := 8) dX7_sortOf_1 (by decide) (fun c => ?_) (fun c => ?_)
  · have h := ifp c h
    refine s_iload_n (pc := 8) O dX7_sortOf_8 rfl 0 rfl ?_
    refine s_bipush (pc := 9) O (v := 97) dX7_sortOf_9 (by decide) ?_
    refine s_bipush (pc := 11) O (v := 122) dX7_sortOf_11 (by decide) ?_
    obtain ⟨v1, e, h⟩ := bd h
    refine s_callSi (pc := 13) O (As := [.int a0, .int 97, .int 122]) (c_X7_in (G := X.1) e) cy_X7_in tw_660 tw_661 (by decide) rfl (Nat.le_refl _) hn rfl (Nat.le_of_ble_eq_true rfl) dX7_sortOf_13 ?_
    refine s_if_eq (pc := 16) O (tgt := 23) dX7_sortOf_16 (by decide) (fun c => ?_) (fun c => ?_)
    · have h := ifp c h
      refine s_iload_n (pc := 23) O dX7_sortOf_23 rfl 0 rfl ?_
      refine s_bipush (pc := 24) O (v := 48) dX7_sortOf_24 (by decide) ?_
      refine s_bipush (pc := 26) O (v := 57) dX7_sortOf_26 (by decide) ?_
      obtain ⟨v2, e, h⟩ := bd h
      refine s_callSi (pc := 28) O (As := [.int a0, .int 48, .int 57]) (c_X7_in (G := X.1) e) cy_X7_in tw_660 tw_661 (by decide) rfl (Nat.le_refl _) hn rfl (Nat.le_of_ble_eq_true rfl) dX7_sortOf_28 ?_
      refine s_if_eq (pc := 31) O (tgt := 38) dX7_sortOf_31 (by decide) (fun c => ?_) (fun c => ?_)
      · have h := ifp c h
        refine s_iload_n (pc := 38) O dX7_sortOf_38 rfl 0 rfl ?_
        refine s_bipush (pc := 39) O (v := 59) dX7_sortOf_39 (by decide) ?_
        refine s_icmp_ne (pc := 41) O (tgt := 48) dX7_sortOf_41 (by decide) (fun c => ?_) (fun c => ?_)
        · have h := ifn c h
          refine s_iconst (pc := 48) O (v := 4) dX7_sortOf_48 (by decide) ?_
          cases h
          exact s_iret (pc := 49) O hK dX7_sortOf_49
        · have h := ifp c h
          refine s_iconst (pc := 44) O (v := 3) dX7_sortOf_44 (by decide) ?_
          refine s_goto (pc := 45) O (tgt := 49) dX7_sortOf_45 (by decide) ?_
          cases h
          exact s_iret (pc := 49) O hK dX7_sortOf_49
      · have h := ifn c h
        refine s_iconst (pc := 34) O (v := 2) dX7_sortOf_34 (by decide) ?_
        refine s_goto (pc := 35) O (tgt := 49) dX7_sortOf_35 (by decide) ?_
        cases h
        exact s_iret (pc := 49) O hK dX7_sortOf_49
    · have h := ifn c h
      refine s_iconst (pc := 19) O (v := 1) dX7_sortOf_19 (by decide) ?_
      refine s_goto (pc := 20) O (tgt := 49) dX7_sortOf_20 (by decide) ?_
      cases h
      exact s_iret (pc := 49) O hK dX7_sortOf_49
  · have h := ifn c h
    refine s_iconst (pc := 4) O (v := 0) dX7_sortOf_4 (by decide) ?_
    refine s_goto (pc := 5) O (tgt := 49) dX7_sortOf_5 (by decide) ?_
    cases h
    exact s_iret (pc := 49) O hK dX7_sortOf_49

def z_X7_type_32 (M : MM) (p0 : Nat) (b1 : Int64) (a4 : Int32) : Option ((Int32 × MM) ⊕ (Int32 × MM)) :=
  if a4 < 0 then (((fI M p0 7 2).bind fun v1 => some ((v1, M))).map .inl) else ((fR M p0 7 1).bind fun v2 => (fI M p0 7 2).bind fun v3 => (waI M v2 v3 (((((b1 : Int64) >>> (((8 * a4) : Int32).toInt64 &&& 63)) &&& 255) : Int64).toInt32)).bind fun M4 => (fI M4 p0 7 2).bind fun v5 => (wfI M4 p0 7 2 ((v5 + 1))).bind fun M6 => some ((.inr ((a4 + (-1)), M6))))
set_option maxHeartbeats 4000000 in
set_option maxRecDepth 100000 in
theorem b_X7_type_32 {X : CT} {lim : Nat} {M : MM} {p0 : Nat} {b1 : Int64} {a4 : Int32} (O : OKX X cX7_type RX7 1 lim 5) (hi : True) (hn : M.1 ≤ lim) {o : (Int32 × MM) ⊕ (Int32 × MM)} (h : z_X7_type_32 M p0 b1 a4 = some o) (hK : (KI (fun (q : Int32 × MM) => RTX X (some .int) (some (.int q.1)) q.2) (fun (t : Int32 × MM) => t.2.1 ≤ lim → WS X t.2 32 [(0, rf X.1 p0), (1, .long b1), (4, .int t.1)] [])) o) : WS X M 32 [(0, rf X.1 p0), (1, .long b1), (4, .int a4)] [] := by
  unfold z_X7_type_32 at h
  refine s_iload (pc := 32) O dX7_type_32 2 rfl ?_
  refine s_if_lt (pc := 34) O (tgt := 74) dX7_type_34 (by decide) (fun c => ?_) (fun c => ?_)
  · have h := ifp c h
    obtain ⟨q0, hq0, ho0⟩ := mpi h; subst ho0; replace h := hq0
    refine s_aload_n (pc := 74) O dX7_type_74 rfl 0 rfl ?_
    obtain ⟨v1, e, h⟩ := bd h
    refine s_getI (pc := 75) O kc7 (k := 2) rfl tw_673 e dX7_type_75 ?_
    cases h
    exact s_iret (pc := 78) O hK dX7_type_78
  · have h := ifn c h
    refine s_aload_n (pc := 37) O dX7_type_37 rfl 0 rfl ?_
    obtain ⟨v2, e, h⟩ := bd h
    refine s_getR (pc := 38) O kc7 (k := 1) rfl tw_672 e dX7_type_38 ?_
    refine s_aload_n (pc := 41) O dX7_type_41 rfl 0 rfl ?_
    obtain ⟨v3, e, h⟩ := bd h
    refine s_getI (pc := 42) O kc7 (k := 2) rfl tw_673 e dX7_type_42 ?_
    refine s_lload_n (pc := 45) O dX7_type_45 rfl 1 rfl ?_
    refine s_bipush (pc := 46) O (v := 8) dX7_type_46 (by decide) ?_
    refine s_iload (pc := 48) O dX7_type_48 2 rfl ?_
    refine s_imul (pc := 50) O dX7_type_50 ?_
    refine s_lshr (pc := 51) O dX7_type_51 ?_
    refine s_ldc2 (pc := 52) O dX7_type_52 tw_730 ?_
    refine s_land (pc := 55) O dX7_type_55 ?_
    refine s_l2i (pc := 56) O dX7_type_56 ?_
    obtain ⟨M4, e, h⟩ := bd h
    refine s_astI (pc := 57) O e dX7_type_57 ?_
    have hn : M4.1 ≤ lim := by rw [waI_n e]; exact hn
    refine s_aload_n (pc := 58) O dX7_type_58 rfl 0 rfl ?_
    refine s_dup (pc := 59) O dX7_type_59 rfl ?_
    obtain ⟨v5, e, h⟩ := bd h
    refine s_getI (pc := 60) O kc7 (k := 2) rfl tw_673 e dX7_type_60 ?_
    refine s_iconst (pc := 63) O (v := 1) dX7_type_63 (by decide) ?_
    refine s_iadd (pc := 64) O dX7_type_64 ?_
    obtain ⟨M6, e, h⟩ := bd h
    refine s_putI (pc := 65) O kc7 (k := 2) rfl rfl rfl tw_673 e dX7_type_65 ?_
    have hn : M6.1 ≤ lim := by rw [wfI_n e]; exact hn
    refine s_iinc (pc := 68) O (v := (a4 + (-1))) (loc' := [(4, .int (a4 + (-1))), (0, rf X.1 p0), (1, .long b1)]) dX7_type_68 2 rfl rfl (by decide) rfl ?_
    refine s_goto (pc := 71) O (tgt := 32) dX7_type_71 (by decide) ?_
    cases h
    exact s_sub (pc := 32) O [1, 2, 0] rfl (hK hn)
set_option maxHeartbeats 4000000 in
set_option maxRecDepth 100000 in
theorem l_X7_type_32 {X : CT} {lim : Nat} {M : MM} {p0 : Nat} {b1 : Int64} {a4 : Int32} (O : OKX X cX7_type RX7 1 lim 5) (hi : True) (hn : M.1 ≤ lim) {o : Int32 × MM} {n : Nat} (h : lp (fun t => z_X7_type_32 t.2 p0 b1 t.1) n (a4, M) = some o) (hK : (fun (q : Int32 × MM) => RTX X (some .int) (some (.int q.1)) q.2) o) : WS X M 32 [(0, rf X.1 p0), (1, .long b1), (4, .int a4)] [] := by
  refine lp_ind (P := fun (o : Int32 × MM) (t : Int32 × MM) => t.2.1 ≤ lim → (fun (q : Int32 × MM) => RTX X (some .int) (some (.int q.1)) q.2) o → WS X t.2 32 [(0, rf X.1 p0), (1, .long b1), (4, .int t.1)] []) (fun t o hs hn hK => ?_) n (a4, M) o h hn hK
  rcases hs with h | ⟨u, h, hu⟩
  · exact b_X7_type_32 O hi hn h hK
  · exact b_X7_type_32 O hi hn h (show KI _ _ (.inr u) from fun hn => hu hn hK)
def f_X7_type (M : MM) (p0 : Nat) (b1 : Int64) (a3 : Int32) : Option (Int32 × MM) :=
  if p0 < M.1 ∧ kd p0 = 7 then ((f_X7_in M a3 1 8).bind fun v1 => if v1 = 0 then (some (((-1), M))) else ((fI M p0 7 2).bind fun v2 => if (v2 + a3) ≤ 200 then (lp (fun t => z_X7_type_32 t.2 p0 b1 t.1) FU ((a3 - 1), M)) else (some (((-3), M))))) else none
theorem r_X7_type {M : MM} {p0 : Nat} {b1 : Int64} {a3 : Int32} {o : Int32 × MM} (h : f_X7_type M p0 b1 a3 = some o) : p0 < M.1 ∧ kd p0 = 7 := by
  unfold f_X7_type at h
  exact (gd h).1
theorem cy_X7_type : CallY yX7_type cX7_type 5 (some .int) 2 := ⟨by decide +kernel, tw_729, tw_47, by decide⟩
set_option maxHeartbeats 4000000 in
set_option maxRecDepth 100000 in
theorem c_X7_type {G : GG} {M : MM} {p0 : Nat} {b1 : Int64} {a3 : Int32} {r : Int32} {M' : MM} (h : f_X7_type M p0 b1 a3 = some (r, M')) (hn : M.1 ≤ M'.1) : Ct G yX7_type cX7_type 5 (some .int) 1 [rf G p0, .long b1, .int a3] M (some (.int r)) M' := by
  refine ct_of (by decide +kernel) (Nat.le_of_ble_eq_true rfl) (fun X hX O hK hi0 => ?_)
  subst hX
  obtain ⟨lim, hlim⟩ : ∃ z, z = M'.1 := ⟨_, rfl⟩
  rw [← hlim] at O hn
  replace O : OKX X cX7_type RX7 1 lim 5 := O
  have hi : True := trivial
  show WS X M 0 [(0, rf X.1 p0), (1, .long b1), (3, .int a3)] []
  replace hK : (fun (q : Int32 × MM) => RTX X (some .int) (some (.int q.1)) q.2) (r, M') := hK
  generalize (r, M') = o at h hK
  unfold f_X7_type at h
  obtain ⟨hg0, h⟩ := gd h
  refine s_iload_n (pc := 0) O dX7_type_0 rfl 2 rfl ?_
  refine s_iconst (pc := 1) O (v := 1) dX7_type_1 (by decide) ?_
  refine s_bipush (pc := 2) O (v := 8) dX7_type_2 (by decide) ?_
  obtain ⟨v1, e, h⟩ := bd h
  refine s_callSi (pc := 4) O (As := [.int a3, .int 1, .int 8]) (c_X7_in (G := X.1) e) cy_X7_in tw_660 tw_661 (by decide) rfl (Nat.le_refl _) hn rfl (Nat.le_of_ble_eq_true rfl) dX7_type_4 ?_
  refine s_if_ne (pc := 7) O (tgt := 12) dX7_type_7 (by decide) (fun c => ?_) (fun c => ?_)
  · have h := ifn c h
    refine s_aload_n (pc := 12) O dX7_type_12 rfl 0 rfl ?_
    obtain ⟨v2, e, h⟩ := bd h
    refine s_getI (pc := 13) O kc7 (k := 2) rfl tw_673 e dX7_type_13 ?_
    refine s_iload_n (pc := 16) O dX7_type_16 rfl 2 rfl ?_
    refine s_iadd (pc := 17) O dX7_type_17 ?_
    refine s_sipush (pc := 18) O (v := 200) dX7_type_18 (by decide) ?_
    refine s_icmp_le (pc := 21) O (tgt := 27) dX7_type_21 (by decide) (fun c => ?_) (fun c => ?_)
    · have h := ifp c h
      refine s_iload_n (pc := 27) O dX7_type_27 rfl 2 rfl ?_
      refine s_iconst (pc := 28) O (v := 1) dX7_type_28 (by decide) ?_
      refine s_isub (pc := 29) O dX7_type_29 ?_
      refine s_istore (pc := 30) O (loc' := [(4, .int (a3 - 1)), (0, rf X.1 p0), (1, .long b1), (3, .int a3)]) dX7_type_30 (by decide) rfl ?_
      exact s_sub (pc := 32) O [1, 2, 0] rfl (l_X7_type_32 O hi hn h hK)
    · have h := ifn c h
      refine s_bipush (pc := 24) O (v := (-3)) dX7_type_24 (by decide) ?_
      cases h
      exact s_iret (pc := 26) O hK dX7_type_26
  · have h := ifp c h
    refine s_iconst (pc := 10) O (v := (-1)) dX7_type_10 (by decide) ?_
    cases h
    exact s_iret (pc := 11) O hK dX7_type_11

def j_X7_verb_53 (M : MM) (b1 : Int64) : Option (Int32) :=
  if (lg_cmp b1 2003792484) = 0 then (some 0) else (if (lg_cmp b1 495672455269) = 0 then (some 1) else (some ((-9))))
set_option maxHeartbeats 4000000 in
set_option maxRecDepth 100000 in
theorem g_X7_verb_53 {X : CT} {lim : Nat} {M : MM} {b1 : Int64} (O : OKX X cX7_verb RX7 1 lim 4) (hi : True) (hn : M.1 ≤ lim) {o : Int32} (h : j_X7_verb_53 M b1 = some o) (hK : (fun (q : Int32) => RTX X (some .int) (some (.int q)) M) o) : WS X M 53 [(1, .long b1)] [] := by
  unfold j_X7_verb_53 at h
  refine s_lload_n (pc := 53) O dX7_verb_53 rfl 0 rfl ?_
  refine s_ldc2 (pc := 54) O dX7_verb_54 tw_759 ?_
  refine s_lcmp (pc := 57) O dX7_verb_57 ?_
  refine s_if_ne (pc := 58) O (tgt := 65) dX7_verb_58 (by decide) (fun c => ?_) (fun c => ?_)
  · have h := ifn c h
    refine s_lload_n (pc := 65) O dX7_verb_65 rfl 0 rfl ?_
    refine s_ldc2 (pc := 66) O dX7_verb_66 tw_760 ?_
    refine s_lcmp (pc := 69) O dX7_verb_69 ?_
    refine s_if_ne (pc := 70) O (tgt := 77) dX7_verb_70 (by decide) (fun c => ?_) (fun c => ?_)
    · have h := ifn c h
      refine s_bipush (pc := 77) O (v := (-9)) dX7_verb_77 (by decide) ?_
      cases h
      exact s_iret (pc := 79) O hK dX7_verb_79
    · have h := ifp c h
      refine s_iconst (pc := 73) O (v := 1) dX7_verb_73 (by decide) ?_
      refine s_goto (pc := 74) O (tgt := 79) dX7_verb_74 (by decide) ?_
      cases h
      exact s_iret (pc := 79) O hK dX7_verb_79
  · have h := ifp c h
    refine s_iconst (pc := 61) O (v := 0) dX7_verb_61 (by decide) ?_
    refine s_goto (pc := 62) O (tgt := 79) dX7_verb_62 (by decide) ?_
    cases h
    exact s_iret (pc := 79) O hK dX7_verb_79
def z_X7_verb_4 (M : MM) (p0 : Nat) (b1 : Int64) (a3 : Int32) : Option ((Int32) ⊕ (Int64 × Int32)) :=
  (fI M p0 7 16).bind fun v1 => if v1 ≤ a3 then ((j_X7_verb_53 M b1).map .inl) else ((fI M p0 7 16).bind fun v2 => if (6 : Int32) ≤ v2 then ((j_X7_verb_53 M b1).map .inl) else ((fI M p0 7 14).bind fun v3 => if v3 = 1 then ((fI M p0 7 15).bind fun v4 => (f_X7_byteAt M p0 ((v4 + a3))).bind fun v5 => some ((.inr (((256 * b1) + (v5 : Int32).toInt64), (a3 + 1))))) else ((j_X7_verb_53 M b1).map .inl)))
set_option maxHeartbeats 4000000 in
set_option maxRecDepth 100000 in
theorem b_X7_verb_4 {X : CT} {lim : Nat} {M : MM} {p0 : Nat} {b1 : Int64} {a3 : Int32} (O : OKX X cX7_verb RX7 1 lim 4) (hi : True) (hn : M.1 ≤ lim) {o : (Int32) ⊕ (Int64 × Int32)} (h : z_X7_verb_4 M p0 b1 a3 = some o) (hK : (KI (fun (q : Int32) => RTX X (some .int) (some (.int q)) M) (fun (t : Int64 × Int32) => WS X M 4 [(0, rf X.1 p0), (1, .long t.1), (3, .int t.2)] [])) o) : WS X M 4 [(0, rf X.1 p0), (1, .long b1), (3, .int a3)] [] := by
  unfold z_X7_verb_4 at h
  refine s_iload_n (pc := 4) O dX7_verb_4 rfl 2 rfl ?_
  refine s_aload_n (pc := 5) O dX7_verb_5 rfl 0 rfl ?_
  obtain ⟨v1, e, h⟩ := bd h
  refine s_getI (pc := 6) O kc7 (k := 16) rfl tw_687 e dX7_verb_6 ?_
  refine s_icmp_ge (pc := 9) O (tgt := 53) dX7_verb_9 (by decide) (fun c => ?_) (fun c => ?_)
  · have h := ifp c h
    obtain ⟨q0, hq0, ho0⟩ := mpi h; subst ho0; replace h := hq0
    exact s_sub (pc := 53) O [1] rfl (g_X7_verb_53 O hi hn h hK)
  · have h := ifn c h
    refine s_aload_n (pc := 12) O dX7_verb_12 rfl 0 rfl ?_
    obtain ⟨v2, e, h⟩ := bd h
    refine s_getI (pc := 13) O kc7 (k := 16) rfl tw_687 e dX7_verb_13 ?_
    refine s_bipush (pc := 16) O (v := 6) dX7_verb_16 (by decide) ?_
    refine s_icmp_ge (pc := 18) O (tgt := 53) dX7_verb_18 (by decide) (fun c => ?_) (fun c => ?_)
    · have h := ifp c h
      obtain ⟨q0, hq0, ho0⟩ := mpi h; subst ho0; replace h := hq0
      exact s_sub (pc := 53) O [1] rfl (g_X7_verb_53 O hi hn h hK)
    · have h := ifn c h
      refine s_aload_n (pc := 21) O dX7_verb_21 rfl 0 rfl ?_
      obtain ⟨v3, e, h⟩ := bd h
      refine s_getI (pc := 22) O kc7 (k := 14) rfl tw_685 e dX7_verb_22 ?_
      refine s_iconst (pc := 25) O (v := 1) dX7_verb_25 (by decide) ?_
      refine s_icmp_ne (pc := 26) O (tgt := 53) dX7_verb_26 (by decide) (fun c => ?_) (fun c => ?_)
      · have h := ifn c h
        obtain ⟨q0, hq0, ho0⟩ := mpi h; subst ho0; replace h := hq0
        exact s_sub (pc := 53) O [1] rfl (g_X7_verb_53 O hi hn h hK)
      · have h := ifp c h
        refine s_ldc2 (pc := 29) O dX7_verb_29 tw_758 ?_
        refine s_lload_n (pc := 32) O dX7_verb_32 rfl 1 rfl ?_
        refine s_lmul (pc := 33) O dX7_verb_33 ?_
        refine s_aload_n (pc := 34) O dX7_verb_34 rfl 0 rfl ?_
        refine s_aload_n (pc := 35) O dX7_verb_35 rfl 0 rfl ?_
        obtain ⟨v4, e, h⟩ := bd h
        refine s_getI (pc := 36) O kc7 (k := 15) rfl tw_686 e dX7_verb_36 ?_
        refine s_iload_n (pc := 39) O dX7_verb_39 rfl 2 rfl ?_
        refine s_iadd (pc := 40) O dX7_verb_40 ?_
        obtain ⟨v5, e, h⟩ := bd h
        refine s_callVi (pc := 41) O (As := [.int (v4 + a3)]) kc7 (c_X7_byteAt (G := X.1) e) cy_X7_byteAt tw_747 tw_749 tw_25 (by decide) rfl (Nat.le_refl _) hn (r_X7_byteAt e).1 (r_X7_byteAt e).2 rfl (Nat.le_of_ble_eq_true rfl) dX7_verb_41 ?_
        refine s_i2l (pc := 44) O dX7_verb_44 ?_
        refine s_ladd (pc := 45) O dX7_verb_45 ?_
        refine s_lstore_n (pc := 46) O (loc' := [(1, .long ((256 * b1) + (v5 : Int32).toInt64)), (0, rf X.1 p0), (3, .int a3)]) dX7_verb_46 rfl (by decide) rfl ?_
        refine s_iinc (pc := 47) O (v := (a3 + 1)) (loc' := [(3, .int (a3 + 1)), (1, .long ((256 * b1) + (v5 : Int32).toInt64)), (0, rf X.1 p0)]) dX7_verb_47 2 rfl rfl (by decide) rfl ?_
        refine s_goto (pc := 50) O (tgt := 4) dX7_verb_50 (by decide) ?_
        cases h
        exact s_sub (pc := 4) O [2, 1, 0] rfl hK
set_option maxHeartbeats 4000000 in
set_option maxRecDepth 100000 in
theorem l_X7_verb_4 {X : CT} {lim : Nat} {M : MM} {p0 : Nat} {b1 : Int64} {a3 : Int32} (O : OKX X cX7_verb RX7 1 lim 4) (hi : True) (hn : M.1 ≤ lim) {o : Int32} {n : Nat} (h : lp (fun t => z_X7_verb_4 M p0 t.1 t.2) n (b1, a3) = some o) (hK : (fun (q : Int32) => RTX X (some .int) (some (.int q)) M) o) : WS X M 4 [(0, rf X.1 p0), (1, .long b1), (3, .int a3)] [] := by
  refine lp_ind (P := fun (o : Int32) (t : Int64 × Int32) => (fun (q : Int32) => RTX X (some .int) (some (.int q)) M) o → WS X M 4 [(0, rf X.1 p0), (1, .long t.1), (3, .int t.2)] []) (fun t o hs  hK => ?_) n (b1, a3) o h  hK
  rcases hs with h | ⟨u, h, hu⟩
  · exact b_X7_verb_4 O hi hn h hK
  · exact b_X7_verb_4 O hi hn h (show KI _ _ (.inr u) from hu hK)
def f_X7_verb (M : MM) (p0 : Nat) : Option (Int32) :=
  if p0 < M.1 ∧ kd p0 = 7 then (lp (fun t => z_X7_verb_4 M p0 t.1 t.2) FU (0, 0)) else none
theorem r_X7_verb {M : MM} {p0 : Nat} {o : Int32} (h : f_X7_verb M p0 = some o) : p0 < M.1 ∧ kd p0 = 7 := by
  unfold f_X7_verb at h
  exact (gd h).1
theorem cy_X7_verb : CallY yX7_verb cX7_verb 4 (some .int) 0 := ⟨by decide +kernel, tw_757, tw_47, by decide⟩
set_option maxHeartbeats 4000000 in
set_option maxRecDepth 100000 in
theorem c_X7_verb {G : GG} {M : MM} {p0 : Nat} {r : Int32} (h : f_X7_verb M p0 = some r) : Ct G yX7_verb cX7_verb 4 (some .int) 1 [rf G p0] M (some (.int r)) M := by
  refine ct_of (by decide +kernel) (Nat.le_of_ble_eq_true rfl) (fun X hX O hK hi0 => ?_)
  subst hX
  obtain ⟨lim, hlim⟩ : ∃ z, z = M.1 := ⟨_, rfl⟩
  rw [← hlim] at O
  replace O : OKX X cX7_verb RX7 1 lim 4 := O
  have hi : True := trivial
  have hn : M.1 ≤ lim := Nat.le_of_eq hlim.symm
  show WS X M 0 [(0, rf X.1 p0)] []
  unfold f_X7_verb at h
  obtain ⟨hg0, h⟩ := gd h
  refine s_lconst (pc := 0) O (v := 0) dX7_verb_0 (by decide) ?_
  refine s_lstore_n (pc := 1) O (loc' := [(1, .long 0), (0, rf X.1 p0)]) dX7_verb_1 rfl (by decide) rfl ?_
  refine s_iconst (pc := 2) O (v := 0) dX7_verb_2 (by decide) ?_
  refine s_istore_n (pc := 3) O (loc' := [(3, .int 0), (1, .long 0), (0, rf X.1 p0)]) dX7_verb_3 rfl (by decide) rfl ?_
  exact s_sub (pc := 4) O [2, 1, 0] rfl (l_X7_verb_4 O hi hn h hK)

def z_X7_wordOf_9 (M : MM) (a1 : Int32) (a2 : Int32) (a3 : Int32) : Option ((Int32) ⊕ (Int32 × Int32)) :=
  if a3 ≤ a1 then (some ((.inl ((a2 - a2 / 10 * 10) - 1)))) else (some ((.inr ((a2 / 10), (a3 + (-1))))))
set_option maxHeartbeats 4000000 in
set_option maxRecDepth 100000 in
theorem b_X7_wordOf_9 {X : CT} {lim : Nat} {M : MM} {a1 : Int32} {a2 : Int32} {a3 : Int32} (O : OKX X cX7_wordOf RX7 1 lim 4) (hi : True) (hn : M.1 ≤ lim) {o : (Int32) ⊕ (Int32 × Int32)} (h : z_X7_wordOf_9 M a1 a2 a3 = some o) (hK : (KI (fun (q : Int32) => RTX X (some .int) (some (.int q)) M) (fun (t : Int32 × Int32) => WS X M 9 [(1, .int a1), (2, .int t.1), (3, .int t.2)] [])) o) : WS X M 9 [(1, .int a1), (2, .int a2), (3, .int a3)] [] := by
  unfold z_X7_wordOf_9 at h
  refine s_iload_n (pc := 9) O dX7_wordOf_9 rfl 2 rfl ?_
  refine s_iload_n (pc := 10) O dX7_wordOf_10 rfl 0 rfl ?_
  refine s_icmp_le (pc := 11) O (tgt := 25) dX7_wordOf_11 (by decide) (fun c => ?_) (fun c => ?_)
  · have h := ifp c h
    refine s_iload_n (pc := 25) O dX7_wordOf_25 rfl 1 rfl ?_
    refine s_bipush (pc := 26) O (v := 10) dX7_wordOf_26 (by decide) ?_
    refine s_irem (pc := 28) O dX7_wordOf_28 (by decide) ?_
    refine s_iconst (pc := 29) O (v := 1) dX7_wordOf_29 (by decide) ?_
    refine s_isub (pc := 30) O dX7_wordOf_30 ?_
    cases h
    exact s_iret (pc := 31) O hK dX7_wordOf_31
  · have h := ifn c h
    refine s_iload_n (pc := 14) O dX7_wordOf_14 rfl 1 rfl ?_
    refine s_bipush (pc := 15) O (v := 10) dX7_wordOf_15 (by decide) ?_
    refine s_idiv (pc := 17) O dX7_wordOf_17 (by decide) ?_
    refine s_istore_n (pc := 18) O (loc' := [(2, .int (a2 / 10)), (1, .int a1), (3, .int a3)]) dX7_wordOf_18 rfl (by decide) rfl ?_
    refine s_iinc (pc := 19) O (v := (a3 + (-1))) (loc' := [(3, .int (a3 + (-1))), (2, .int (a2 / 10)), (1, .int a1)]) dX7_wordOf_19 2 rfl rfl (by decide) rfl ?_
    refine s_goto (pc := 22) O (tgt := 9) dX7_wordOf_22 (by decide) ?_
    cases h
    exact s_sub (pc := 9) O [2, 1, 0] rfl hK
set_option maxHeartbeats 4000000 in
set_option maxRecDepth 100000 in
theorem l_X7_wordOf_9 {X : CT} {lim : Nat} {M : MM} {a1 : Int32} {a2 : Int32} {a3 : Int32} (O : OKX X cX7_wordOf RX7 1 lim 4) (hi : True) (hn : M.1 ≤ lim) {o : Int32} {n : Nat} (h : lp (fun t => z_X7_wordOf_9 M a1 t.1 t.2) n (a2, a3) = some o) (hK : (fun (q : Int32) => RTX X (some .int) (some (.int q)) M) o) : WS X M 9 [(1, .int a1), (2, .int a2), (3, .int a3)] [] := by
  refine lp_ind (P := fun (o : Int32) (t : Int32 × Int32) => (fun (q : Int32) => RTX X (some .int) (some (.int q)) M) o → WS X M 9 [(1, .int a1), (2, .int t.1), (3, .int t.2)] []) (fun t o hs  hK => ?_) n (a2, a3) o h  hK
  rcases hs with h | ⟨u, h, hu⟩
  · exact b_X7_wordOf_9 O hi hn h hK
  · exact b_X7_wordOf_9 O hi hn h (show KI _ _ (.inr u) from hu hK)
def f_X7_wordOf (M : MM) (a0 : Int32) (a1 : Int32) : Option (Int32) :=
  (f_X7_length M a0).bind fun v1 => lp (fun t => z_X7_wordOf_9 M a1 t.1 t.2) FU (a0, (v1 - 1))
theorem cy_X7_wordOf : CallY yX7_wordOf cX7_wordOf 4 (some .int) 2 := ⟨by decide +kernel, tw_655, tw_47, by decide⟩
set_option maxHeartbeats 4000000 in
set_option maxRecDepth 100000 in
theorem c_X7_wordOf {G : GG} {M : MM} {a0 : Int32} {a1 : Int32} {r : Int32} (h : f_X7_wordOf M a0 a1 = some r) : Ct G yX7_wordOf cX7_wordOf 4 (some .int) 1 [.int a0, .int a1] M (some (.int r)) M := by
  refine ct_of (by decide +kernel) (Nat.le_of_ble_eq_true rfl) (fun X hX O hK hi0 => ?_)
  subst hX
  obtain ⟨lim, hlim⟩ : ∃ z, z = M.1 := ⟨_, rfl⟩
  rw [← hlim] at O
  replace O : OKX X cX7_wordOf RX7 1 lim 4 := O
  have hi : True := trivial
  have hn : M.1 ≤ lim := Nat.le_of_eq hlim.symm
  show WS X M 0 [(0, .int a0), (1, .int a1)] []
  unfold f_X7_wordOf at h
  refine s_iload_n (pc := 0) O dX7_wordOf_0 rfl 0 rfl ?_
  refine s_istore_n (pc := 1) O (loc' := [(2, .int a0), (0, .int a0), (1, .int a1)]) dX7_wordOf_1 rfl (by decide) rfl ?_
  refine s_iload_n (pc := 2) O dX7_wordOf_2 rfl 1 rfl ?_
  obtain ⟨v1, e, h⟩ := bd h
  refine s_callSi (pc := 3) O (As := [.int a0]) (c_X7_length (G := X.1) e) cy_X7_length tw_650 tw_651 (by decide) rfl (Nat.le_refl _) hn rfl (Nat.le_of_ble_eq_true rfl) dX7_wordOf_3 ?_
  refine s_iconst (pc := 6) O (v := 1) dX7_wordOf_6 (by decide) ?_
  refine s_isub (pc := 7) O dX7_wordOf_7 ?_
  refine s_istore_n (pc := 8) O (loc' := [(3, .int (v1 - 1)), (2, .int a0), (0, .int a0), (1, .int a1)]) dX7_wordOf_8 rfl (by decide) rfl ?_
  exact s_sub (pc := 9) O [3, 1, 0] rfl (l_X7_wordOf_9 O hi hn h hK)

def j_X7_write_70 (M : MM) (p0 : Nat) (a1 : Int32) : Option (Int32 × MM) :=
  (fR M p0 7 5).bind fun v1 => (aI M v1 0).bind fun v2 => if v2 = 12 then (some (((-3), M))) else ((fR M p0 7 5).bind fun v3 => (aI M v3 0).bind fun v4 => (waI M v3 0 ((v4 + 1))).bind fun M5 => (fR M5 p0 7 5).bind fun v6 => (fR M5 p0 7 5).bind fun v7 => (aI M5 v7 0).bind fun v8 => (waI M5 v6 v8 a1).bind fun M9 => (fR M9 p0 7 5).bind fun v10 => (aI M9 v10 0).bind fun v11 => some ((v11, M9)))
set_option maxHeartbeats 4000000 in
set_option maxRecDepth 100000 in
theorem g_X7_write_70 {X : CT} {lim : Nat} {M : MM} {p0 : Nat} {a1 : Int32} (O : OKX X cX7_write RX7 1 lim 3) (hi : True) (hn : M.1 ≤ lim) {o : Int32 × MM} (h : j_X7_write_70 M p0 a1 = some o) (hK : (fun (q : Int32 × MM) => RTX X (some .int) (some (.int q.1)) q.2) o) : WS X M 70 [(0, rf X.1 p0), (1, .int a1)] [] := by
  unfold j_X7_write_70 at h
  refine s_aload_n (pc := 70) O dX7_write_70 rfl 0 rfl ?_
  obtain ⟨v1, e, h⟩ := bd h
  refine s_getR (pc := 71) O kc7 (k := 5) rfl tw_676 e dX7_write_71 ?_
  refine s_iconst (pc := 74) O (v := 0) dX7_write_74 (by decide) ?_
  obtain ⟨v2, e, h⟩ := bd h
  refine s_aldI (pc := 75) O e dX7_write_75 ?_
  refine s_bipush (pc := 76) O (v := 12) dX7_write_76 (by decide) ?_
  refine s_icmp_ne (pc := 78) O (tgt := 84) dX7_write_78 (by decide) (fun c => ?_) (fun c => ?_)
  · have h := ifn c h
    refine s_aload_n (pc := 84) O dX7_write_84 rfl 0 rfl ?_
    obtain ⟨v3, e, h⟩ := bd h
    refine s_getR (pc := 85) O kc7 (k := 5) rfl tw_676 e dX7_write_85 ?_
    refine s_iconst (pc := 88) O (v := 0) dX7_write_88 (by decide) ?_
    refine s_dup2 (pc := 89) O dX7_write_89 rfl rfl ?_
    obtain ⟨v4, e, h⟩ := bd h
    refine s_aldI (pc := 90) O e dX7_write_90 ?_
    refine s_iconst (pc := 91) O (v := 1) dX7_write_91 (by decide) ?_
    refine s_iadd (pc := 92) O dX7_write_92 ?_
    obtain ⟨M5, e, h⟩ := bd h
    refine s_astI (pc := 93) O e dX7_write_93 ?_
    have hn : M5.1 ≤ lim := by rw [waI_n e]; exact hn
    refine s_aload_n (pc := 94) O dX7_write_94 rfl 0 rfl ?_
    obtain ⟨v6, e, h⟩ := bd h
    refine s_getR (pc := 95) O kc7 (k := 5) rfl tw_676 e dX7_write_95 ?_
    refine s_aload_n (pc := 98) O dX7_write_98 rfl 0 rfl ?_
    obtain ⟨v7, e, h⟩ := bd h
    refine s_getR (pc := 99) O kc7 (k := 5) rfl tw_676 e dX7_write_99 ?_
    refine s_iconst (pc := 102) O (v := 0) dX7_write_102 (by decide) ?_
    obtain ⟨v8, e, h⟩ := bd h
    refine s_aldI (pc := 103) O e dX7_write_103 ?_
    refine s_iload_n (pc := 104) O dX7_write_104 rfl 1 rfl ?_
    obtain ⟨M9, e, h⟩ := bd h
    refine s_astI (pc := 105) O e dX7_write_105 ?_
    have hn : M9.1 ≤ lim := by rw [waI_n e]; exact hn
    refine s_aload_n (pc := 106) O dX7_write_106 rfl 0 rfl ?_
    obtain ⟨v10, e, h⟩ := bd h
    refine s_getR (pc := 107) O kc7 (k := 5) rfl tw_676 e dX7_write_107 ?_
    refine s_iconst (pc := 110) O (v := 0) dX7_write_110 (by decide) ?_
    obtain ⟨v11, e, h⟩ := bd h
    refine s_aldI (pc := 111) O e dX7_write_111 ?_
    cases h
    exact s_iret (pc := 112) O hK dX7_write_112
  · have h := ifp c h
    refine s_bipush (pc := 81) O (v := (-3)) dX7_write_81 (by decide) ?_
    cases h
    exact s_iret (pc := 83) O hK dX7_write_83
def f_X7_write (M : MM) (p0 : Nat) (a1 : Int32) : Option (Int32 × MM) :=
  if p0 < M.1 ∧ kd p0 = 7 then ((f_X7_placeOf M p0 a1).bind fun v1 => if v1 = (-9) then (some (((-1), M))) else ((fR M p0 7 5).bind fun v2 => (aI M v2 0).bind fun v3 => if v3 ≤ 0 then (j_X7_write_70 M p0 a1) else ((fR M p0 7 5).bind fun v4 => (fR M p0 7 5).bind fun v5 => (aI M v5 0).bind fun v6 => (aI M v4 v6).bind fun v7 => if v7 = a1 then (some (((-2), M))) else ((fR M p0 7 9).bind fun v8 => (fR M p0 7 5).bind fun v9 => (fR M p0 7 5).bind fun v10 => (aI M v10 0).bind fun v11 => (aI M v9 v11).bind fun v12 => (f_X7_placeOf M p0 v12).bind fun v13 => (aI M v8 v13).bind fun v14 => (fR M p0 7 9).bind fun v15 => (aI M v15 v1).bind fun v16 => if v14 = v16 then (j_X7_write_70 M p0 a1) else (some (((-2), M))))))) else none
theorem r_X7_write {M : MM} {p0 : Nat} {a1 : Int32} {o : Int32 × MM} (h : f_X7_write M p0 a1 = some o) : p0 < M.1 ∧ kd p0 = 7 := by
  unfold f_X7_write at h
  exact (gd h).1
theorem cy_X7_write : CallY yX7_write cX7_write 3 (some .int) 1 := ⟨by decide +kernel, tw_815, tw_47, by decide⟩
set_option maxHeartbeats 4000000 in
set_option maxRecDepth 100000 in
theorem c_X7_write {G : GG} {M : MM} {p0 : Nat} {a1 : Int32} {r : Int32} {M' : MM} (h : f_X7_write M p0 a1 = some (r, M')) (hn : M.1 ≤ M'.1) : Ct G yX7_write cX7_write 3 (some .int) 1 [rf G p0, .int a1] M (some (.int r)) M' := by
  refine ct_of (by decide +kernel) (Nat.le_of_ble_eq_true rfl) (fun X hX O hK hi0 => ?_)
  subst hX
  obtain ⟨lim, hlim⟩ : ∃ z, z = M'.1 := ⟨_, rfl⟩
  rw [← hlim] at O hn
  replace O : OKX X cX7_write RX7 1 lim 3 := O
  have hi : True := trivial
  show WS X M 0 [(0, rf X.1 p0), (1, .int a1)] []
  replace hK : (fun (q : Int32 × MM) => RTX X (some .int) (some (.int q.1)) q.2) (r, M') := hK
  generalize (r, M') = o at h hK
  unfold f_X7_write at h
  obtain ⟨hg0, h⟩ := gd h
  refine s_aload_n (pc := 0) O dX7_write_0 rfl 0 rfl ?_
  refine s_iload_n (pc := 1) O dX7_write_1 rfl 1 rfl ?_
  obtain ⟨v1, e, h⟩ := bd h
  refine s_callVi (pc := 2) O (As := [.int a1]) kc7 (c_X7_placeOf (G := X.1) e) cy_X7_placeOf tw_801 tw_803 tw_33 (by decide) rfl (Nat.le_refl _) hn (r_X7_placeOf e).1 (r_X7_placeOf e).2 rfl (Nat.le_of_ble_eq_true rfl) dX7_write_2 ?_
  refine s_istore_n (pc := 5) O (loc' := [(2, .int v1), (0, rf X.1 p0), (1, .int a1)]) dX7_write_5 rfl (by decide) rfl ?_
  refine s_iload_n (pc := 6) O dX7_write_6 rfl 0 rfl ?_
  refine s_bipush (pc := 7) O (v := (-9)) dX7_write_7 (by decide) ?_
  refine s_icmp_ne (pc := 9) O (tgt := 14) dX7_write_9 (by decide) (fun c => ?_) (fun c => ?_)
  · have h := ifn c h
    refine s_aload_n (pc := 14) O dX7_write_14 rfl 1 rfl ?_
    obtain ⟨v2, e, h⟩ := bd h
    refine s_getR (pc := 15) O kc7 (k := 5) rfl tw_676 e dX7_write_15 ?_
    refine s_iconst (pc := 18) O (v := 0) dX7_write_18 (by decide) ?_
    obtain ⟨v3, e, h⟩ := bd h
    refine s_aldI (pc := 19) O e dX7_write_19 ?_
    refine s_if_le (pc := 20) O (tgt := 70) dX7_write_20 (by decide) (fun c => ?_) (fun c => ?_)
    · have h := ifp c h
      exact s_sub (pc := 70) O [1, 2] rfl (g_X7_write_70 O hi hn h hK)
    · have h := ifn c h
      refine s_aload_n (pc := 23) O dX7_write_23 rfl 1 rfl ?_
      obtain ⟨v4, e, h⟩ := bd h
      refine s_getR (pc := 24) O kc7 (k := 5) rfl tw_676 e dX7_write_24 ?_
      refine s_aload_n (pc := 27) O dX7_write_27 rfl 1 rfl ?_
      obtain ⟨v5, e, h⟩ := bd h
      refine s_getR (pc := 28) O kc7 (k := 5) rfl tw_676 e dX7_write_28 ?_
      refine s_iconst (pc := 31) O (v := 0) dX7_write_31 (by decide) ?_
      obtain ⟨v6, e, h⟩ := bd h
      refine s_aldI (pc := 32) O e dX7_write_32 ?_
      obtain ⟨v7, e, h⟩ := bd h
      refine s_aldI (pc := 33) O e dX7_write_33 ?_
      refine s_iload_n (pc := 34) O dX7_write_34 rfl 2 rfl ?_
      refine s_icmp_eq (pc := 35) O (tgt := 67) dX7_write_35 (by decide) (fun c => ?_) (fun c => ?_)
      · have h := ifp c h
        refine s_bipush (pc := 67) O (v := (-2)) dX7_write_67 (by decide) ?_
        cases h
        exact s_iret (pc := 69) O hK dX7_write_69
      · have h := ifn c h
        refine s_aload_n (pc := 38) O dX7_write_38 rfl 1 rfl ?_
        obtain ⟨v8, e, h⟩ := bd h
        refine s_getR (pc := 39) O kc7 (k := 9) rfl tw_680 e dX7_write_39 ?_
        refine s_aload_n (pc := 42) O dX7_write_42 rfl 1 rfl ?_
        refine s_aload_n (pc := 43) O dX7_write_43 rfl 1 rfl ?_
        obtain ⟨v9, e, h⟩ := bd h
        refine s_getR (pc := 44) O kc7 (k := 5) rfl tw_676 e dX7_write_44 ?_
        refine s_aload_n (pc := 47) O dX7_write_47 rfl 1 rfl ?_
        obtain ⟨v10, e, h⟩ := bd h
        refine s_getR (pc := 48) O kc7 (k := 5) rfl tw_676 e dX7_write_48 ?_
        refine s_iconst (pc := 51) O (v := 0) dX7_write_51 (by decide) ?_
        obtain ⟨v11, e, h⟩ := bd h
        refine s_aldI (pc := 52) O e dX7_write_52 ?_
        obtain ⟨v12, e, h⟩ := bd h
        refine s_aldI (pc := 53) O e dX7_write_53 ?_
        obtain ⟨v13, e, h⟩ := bd h
        refine s_callVi (pc := 54) O (As := [.int v12]) kc7 (c_X7_placeOf (G := X.1) e) cy_X7_placeOf tw_801 tw_803 tw_33 (by decide) rfl (Nat.le_refl _) hn (r_X7_placeOf e).1 (r_X7_placeOf e).2 rfl (Nat.le_of_ble_eq_true rfl) dX7_write_54 ?_
        obtain ⟨v14, e, h⟩ := bd h
        refine s_aldI (pc := 57) O e dX7_write_57 ?_
        refine s_aload_n (pc := 58) O dX7_write_58 rfl 1 rfl ?_
        obtain ⟨v15, e, h⟩ := bd h
        refine s_getR (pc := 59) O kc7 (k := 9) rfl tw_680 e dX7_write_59 ?_
        refine s_iload_n (pc := 62) O dX7_write_62 rfl 0 rfl ?_
        obtain ⟨v16, e, h⟩ := bd h
        refine s_aldI (pc := 63) O e dX7_write_63 ?_
        refine s_icmp_eq (pc := 64) O (tgt := 70) dX7_write_64 (by decide) (fun c => ?_) (fun c => ?_)
        · have h := ifp c h
          exact s_sub (pc := 70) O [1, 2] rfl (g_X7_write_70 O hi hn h hK)
        · have h := ifn c h
          refine s_bipush (pc := 67) O (v := (-2)) dX7_write_67 (by decide) ?_
          cases h
          exact s_iret (pc := 69) O hK dX7_write_69
  · have h := ifp c h
    refine s_iconst (pc := 12) O (v := (-1)) dX7_write_12 (by decide) ?_
    cases h
    exact s_iret (pc := 13) O hK dX7_write_13

def j_X7_isAnswer_43 (M : MM) : Option (Int32) :=
  some 1
set_option maxHeartbeats 4000000 in
set_option maxRecDepth 100000 in
theorem g_X7_isAnswer_43 {X : CT} {lim : Nat} {M : MM} (O : OKX X cX7_isAnswer RX7 2 lim 4) (hi : True) (hn : M.1 ≤ lim) {o : Int32} (h : j_X7_isAnswer_43 M = some o) (hK : (fun (q : Int32) => RTX X (some .boolean) (some (.int q)) M) o) : WS X M 43 [] [] := by
  unfold j_X7_isAnswer_43 at h
  refine s_iconst (pc := 43) O (v := 1) dX7_isAnswer_43 (by decide) ?_
  refine s_goto (pc := 44) O (tgt := 48) dX7_isAnswer_44 (by decide) ?_
  cases h
  exact s_zret (pc := 48) O (by decide) hK dX7_isAnswer_48
def f_X7_isAnswer (M : MM) (p0 : Nat) (a1 : Int32) (a2 : Int32) (a3 : Int32) : Option (Int32) :=
  if p0 < M.1 ∧ kd p0 = 7 then (if a2 = a1 then (some 0) else ((fR M p0 7 9).bind fun v1 => (aI M v1 a2).bind fun v2 => (fR M p0 7 9).bind fun v3 => (aI M v3 a1).bind fun v4 => if v2 = v4 then (j_X7_isAnswer_43 M) else (if a3 ≤ 0 then (some 0) else ((fR M p0 7 9).bind fun v5 => (aI M v5 a2).bind fun v6 => (fR M p0 7 9).bind fun v7 => (aI M v7 a1).bind fun v8 => (f_X7_apart M v6 v8).bind fun v9 => if a3 < v9 then (some 0) else (j_X7_isAnswer_43 M))))) else none
theorem r_X7_isAnswer {M : MM} {p0 : Nat} {a1 : Int32} {a2 : Int32} {a3 : Int32} {o : Int32} (h : f_X7_isAnswer M p0 a1 a2 a3 = some o) : p0 < M.1 ∧ kd p0 = 7 := by
  unfold f_X7_isAnswer at h
  exact (gd h).1
theorem cy_X7_isAnswer : CallY yX7_isAnswer cX7_isAnswer 4 (some .boolean) 3 := ⟨by decide +kernel, tw_839, tw_47, by decide⟩
set_option maxHeartbeats 4000000 in
set_option maxRecDepth 100000 in
theorem c_X7_isAnswer {G : GG} {M : MM} {p0 : Nat} {a1 : Int32} {a2 : Int32} {a3 : Int32} {r : Int32} (h : f_X7_isAnswer M p0 a1 a2 a3 = some r) : Ct G yX7_isAnswer cX7_isAnswer 4 (some .boolean) 2 [rf G p0, .int a1, .int a2, .int a3] M (some (.int r)) M := by
  refine ct_of (by decide +kernel) (Nat.le_of_ble_eq_true rfl) (fun X hX O hK hi0 => ?_)
  subst hX
  obtain ⟨lim, hlim⟩ : ∃ z, z = M.1 := ⟨_, rfl⟩
  rw [← hlim] at O
  replace O : OKX X cX7_isAnswer RX7 2 lim 4 := O
  have hi : True := trivial
  have hn : M.1 ≤ lim := Nat.le_of_eq hlim.symm
  show WS X M 0 [(0, rf X.1 p0), (1, .int a1), (2, .int a2), (3, .int a3)] []
  unfold f_X7_isAnswer at h
  obtain ⟨hg0, h⟩ := gd h
  refine s_iload_n (pc := 0) O dX7_isAnswer_0 rfl 2 rfl ?_
  refine s_iload_n (pc := 1) O dX7_isAnswer_1 rfl 1 rfl ?_
  refine s_icmp_eq (pc := 2) O (tgt := 47) dX7_isAnswer_2 (by decide) (fun c => ?_) (fun c => ?_)
  · have h := ifp c h
    refine s_iconst (pc := 47) O (v := 0) dX7_isAnswer_47 (by decide) ?_
    cases h
    exact s_zret (pc := 48) O (by decide) hK dX7_isAnswer_48
  · have h := ifn c h
    refine s_aload_n (pc := 5) O dX7_isAnswer_5 rfl 0 rfl ?_
    obtain ⟨v1, e, h⟩ := bd h
    refine s_getR (pc := 6) O kc7 (k := 9) rfl tw_680 e dX7_isAnswer_6 ?_
    refine s_iload_n (pc := 9) O dX7_isAnswer_9 rfl 2 rfl ?_
    obtain ⟨v2, e, h⟩ := bd h
    refine s_aldI (pc := 10) O e dX7_isAnswer_10 ?_
    refine s_aload_n (pc := 11) O dX7_isAnswer_11 rfl 0 rfl ?_
    obtain ⟨v3, e, h⟩ := bd h
    refine s_getR (pc := 12) O kc7 (k := 9) rfl tw_680 e dX7_isAnswer_12 ?_
    refine s_iload_n (pc := 15) O dX7_isAnswer_15 rfl 1 rfl ?_
    obtain ⟨v4, e, h⟩ := bd h
    refine s_aldI (pc := 16) O e dX7_isAnswer_16 ?_
    refine s_icmp_eq (pc := 17) O (tgt := 43) dX7_isAnswer_17 (by decide) (fun c => ?_) (fun c => ?_)
    · have h := ifp c h
      exact s_sub (pc := 43) O [] rfl (g_X7_isAnswer_43 O hi hn h hK)
    · have h := ifn c h
      refine s_iload_n (pc := 20) O dX7_isAnswer_20 rfl 3 rfl ?_
      refine s_if_le (pc := 21) O (tgt := 47) dX7_isAnswer_21 (by decide) (fun c => ?_) (fun c => ?_)
      · have h := ifp c h
        refine s_iconst (pc := 47) O (v := 0) dX7_isAnswer_47 (by decide) ?_
        cases h
        exact s_zret (pc := 48) O (by decide) hK dX7_isAnswer_48
      · have h := ifn c h
        refine s_aload_n (pc := 24) O dX7_isAnswer_24 rfl 0 rfl ?_
        obtain ⟨v5, e, h⟩ := bd h
        refine s_getR (pc := 25) O kc7 (k := 9) rfl tw_680 e dX7_isAnswer_25 ?_
        refine s_iload_n (pc := 28) O dX7_isAnswer_28 rfl 2 rfl ?_
        obtain ⟨v6, e, h⟩ := bd h
        refine s_aldI (pc := 29) O e dX7_isAnswer_29 ?_
        refine s_aload_n (pc := 30) O dX7_isAnswer_30 rfl 0 rfl ?_
        obtain ⟨v7, e, h⟩ := bd h
        refine s_getR (pc := 31) O kc7 (k := 9) rfl tw_680 e dX7_isAnswer_31 ?_
        refine s_iload_n (pc := 34) O dX7_isAnswer_34 rfl 1 rfl ?_
        obtain ⟨v8, e, h⟩ := bd h
        refine s_aldI (pc := 35) O e dX7_isAnswer_35 ?_
        obtain ⟨v9, e, h⟩ := bd h
        refine s_callSi (pc := 36) O (As := [.int v6, .int v8]) (c_X7_apart (G := X.1) e) cy_X7_apart tw_840 tw_841 (by decide) rfl (Nat.le_refl _) hn rfl (Nat.le_of_ble_eq_true rfl) dX7_isAnswer_36 ?_
        refine s_iload_n (pc := 39) O dX7_isAnswer_39 rfl 3 rfl ?_
        refine s_icmp_gt (pc := 40) O (tgt := 47) dX7_isAnswer_40 (by decide) (fun c => ?_) (fun c => ?_)
        · have h := ifp c h
          refine s_iconst (pc := 47) O (v := 0) dX7_isAnswer_47 (by decide) ?_
          cases h
          exact s_zret (pc := 48) O (by decide) hK dX7_isAnswer_48
        · have h := ifn c h
          exact s_sub (pc := 43) O [] rfl (g_X7_isAnswer_43 O hi hn h hK)

def j_X7_isOf_73 (M : MM) (p0 : Nat) (a1 : Int32) (a2 : Int32) (a4 : Int32) (s0 : Int32) : Option ((Int32) ⊕ (Int32 × Int32)) :=
  some ((.inr (s0, (a4 + 1))))
set_option maxHeartbeats 4000000 in
set_option maxRecDepth 100000 in
theorem g_X7_isOf_73 {X : CT} {lim : Nat} {M : MM} {p0 : Nat} {a1 : Int32} {a2 : Int32} {a4 : Int32} {s0 : Int32} (O : OKX X cX7_isOf RX7 2 lim 5) (hi : True) (hn : M.1 ≤ lim) {o : (Int32) ⊕ (Int32 × Int32)} (h : j_X7_isOf_73 M p0 a1 a2 a4 s0 = some o) (hK : (KI (fun (q : Int32) => RTX X (some .boolean) (some (.int q)) M) (fun (t : Int32 × Int32) => WS X M 25 [(0, rf X.1 p0), (1, .int a1), (2, .int a2), (3, .int t.1), (4, .int t.2)] [])) o) : WS X M 73 [(0, rf X.1 p0), (1, .int a1), (2, .int a2), (4, .int a4)] [.int s0] := by
  unfold j_X7_isOf_73 at h
  refine s_istore_n (pc := 73) O (loc' := [(3, .int s0), (0, rf X.1 p0), (1, .int a1), (2, .int a2), (4, .int a4)]) dX7_isOf_73 rfl (by decide) rfl ?_
  refine s_iinc (pc := 74) O (v := (a4 + 1)) (loc' := [(4, .int (a4 + 1)), (3, .int s0), (0, rf X.1 p0), (1, .int a1), (2, .int a2)]) dX7_isOf_74 4 rfl rfl (by decide) rfl ?_
  refine s_goto (pc := 77) O (tgt := 25) dX7_isOf_77 (by decide) ?_
  cases h
  exact s_sub (pc := 25) O [2, 3, 4, 1, 0] rfl hK
def z_X7_isOf_25 (M : MM) (p0 : Nat) (a1 : Int32) (a2 : Int32) (a3 : Int32) (a4 : Int32) : Option ((Int32) ⊕ (Int32 × Int32)) :=
  (f_X7_length M a1).bind fun v1 => if v1 ≤ a4 then ((if a3 = 0 ∨ a3 = 1 then (some a3) else none).map .inl) else (if a3 = 0 then ((if a3 = 0 ∨ a3 = 1 then (some a3) else none).map .inl) else ((fR M p0 7 3).bind fun v2 => (aI M v2 (((88 + (3 * a2)) + a4))).bind fun v3 => (fR M p0 7 3).bind fun v4 => (f_X7_wordOf M a1 a4).bind fun v5 => (aI M v4 ((3 + v5))).bind fun v6 => if v3 = v6 then (j_X7_isOf_73 M p0 a1 a2 a4 1) else (j_X7_isOf_73 M p0 a1 a2 a4 0)))
set_option maxHeartbeats 4000000 in
set_option maxRecDepth 100000 in
theorem b_X7_isOf_25 {X : CT} {lim : Nat} {M : MM} {p0 : Nat} {a1 : Int32} {a2 : Int32} {a3 : Int32} {a4 : Int32} (O : OKX X cX7_isOf RX7 2 lim 5) (hi : True) (hn : M.1 ≤ lim) {o : (Int32) ⊕ (Int32 × Int32)} (h : z_X7_isOf_25 M p0 a1 a2 a3 a4 = some o) (hK : (KI (fun (q : Int32) => RTX X (some .boolean) (some (.int q)) M) (fun (t : Int32 × Int32) => WS X M 25 [(0, rf X.1 p0), (1, .int a1), (2, .int a2), (3, .int t.1), (4, .int t.2)] [])) o) : WS X M 25 [(0, rf X.1 p0), (1, .int a1), (2, .int a2), (3, .int a3), (4, .int a4)] [] := by
  unfold z_X7_isOf_25 at h
  refine s_iload (pc := 25) O dX7_isOf_25 4 rfl ?_
  refine s_iload_n (pc := 27) O dX7_isOf_27 rfl 1 rfl ?_
  obtain ⟨v1, e, h⟩ := bd h
  refine s_callSi (pc := 28) O (As := [.int a1]) (c_X7_length (G := X.1) e) cy_X7_length tw_650 tw_651 (by decide) rfl (Nat.le_refl _) hn rfl (Nat.le_of_ble_eq_true rfl) dX7_isOf_28 ?_
  refine s_icmp_ge (pc := 31) O (tgt := 80) dX7_isOf_31 (by decide) (fun c => ?_) (fun c => ?_)
  · have h := ifp c h
    obtain ⟨q0, hq0, ho0⟩ := mpi h; subst ho0; replace h := hq0
    refine s_iload_n (pc := 80) O dX7_isOf_80 rfl 3 rfl ?_
    obtain ⟨hz, h⟩ := gd h
    cases h
    exact s_zret (pc := 81) O hz hK dX7_isOf_81
  · have h := ifn c h
    refine s_iload_n (pc := 34) O dX7_isOf_34 rfl 3 rfl ?_
    refine s_if_eq (pc := 35) O (tgt := 80) dX7_isOf_35 (by decide) (fun c => ?_) (fun c => ?_)
    · have h := ifp c h
      obtain ⟨q0, hq0, ho0⟩ := mpi h; subst ho0; replace h := hq0
      refine s_iload_n (pc := 80) O dX7_isOf_80 rfl 3 rfl ?_
      obtain ⟨hz, h⟩ := gd h
      cases h
      exact s_zret (pc := 81) O hz hK dX7_isOf_81
    · have h := ifn c h
      refine s_aload_n (pc := 38) O dX7_isOf_38 rfl 0 rfl ?_
      obtain ⟨v2, e, h⟩ := bd h
      refine s_getR (pc := 39) O kc7 (k := 3) rfl tw_674 e dX7_isOf_39 ?_
      refine s_bipush (pc := 42) O (v := 88) dX7_isOf_42 (by decide) ?_
      refine s_iconst (pc := 44) O (v := 3) dX7_isOf_44 (by decide) ?_
      refine s_iload_n (pc := 45) O dX7_isOf_45 rfl 2 rfl ?_
      refine s_imul (pc := 46) O dX7_isOf_46 ?_
      refine s_iadd (pc := 47) O dX7_isOf_47 ?_
      refine s_iload (pc := 48) O dX7_isOf_48 4 rfl ?_
      refine s_iadd (pc := 50) O dX7_isOf_50 ?_
      obtain ⟨v3, e, h⟩ := bd h
      refine s_aldI (pc := 51) O e dX7_isOf_51 ?_
      refine s_aload_n (pc := 52) O dX7_isOf_52 rfl 0 rfl ?_
      obtain ⟨v4, e, h⟩ := bd h
      refine s_getR (pc := 53) O kc7 (k := 3) rfl tw_674 e dX7_isOf_53 ?_
      refine s_iconst (pc := 56) O (v := 3) dX7_isOf_56 (by decide) ?_
      refine s_iload_n (pc := 57) O dX7_isOf_57 rfl 1 rfl ?_
      refine s_iload (pc := 58) O dX7_isOf_58 4 rfl ?_
      obtain ⟨v5, e, h⟩ := bd h
      refine s_callSi (pc := 60) O (As := [.int a1, .int a4]) (c_X7_wordOf (G := X.1) e) cy_X7_wordOf tw_653 tw_654 (by decide) rfl (Nat.le_refl _) hn rfl (Nat.le_of_ble_eq_true rfl) dX7_isOf_60 ?_
      refine s_iadd (pc := 63) O dX7_isOf_63 ?_
      obtain ⟨v6, e, h⟩ := bd h
      refine s_aldI (pc := 64) O e dX7_isOf_64 ?_
      refine s_icmp_ne (pc := 65) O (tgt := 72) dX7_isOf_65 (by decide) (fun c => ?_) (fun c => ?_)
      · have h := ifn c h
        refine s_iconst (pc := 72) O (v := 0) dX7_isOf_72 (by decide) ?_
        exact s_sub (pc := 73) O [0, 1, 2, 4] rfl (g_X7_isOf_73 O hi hn h hK)
      · have h := ifp c h
        refine s_iconst (pc := 68) O (v := 1) dX7_isOf_68 (by decide) ?_
        refine s_goto (pc := 69) O (tgt := 73) dX7_isOf_69 (by decide) ?_
        exact s_sub (pc := 73) O [0, 1, 2, 4] rfl (g_X7_isOf_73 O hi hn h hK)
set_option maxHeartbeats 4000000 in
set_option maxRecDepth 100000 in
theorem l_X7_isOf_25 {X : CT} {lim : Nat} {M : MM} {p0 : Nat} {a1 : Int32} {a2 : Int32} {a3 : Int32} {a4 : Int32} (O : OKX X cX7_isOf RX7 2 lim 5) (hi : True) (hn : M.1 ≤ lim) {o : Int32} {n : Nat} (h : lp (fun t => z_X7_isOf_25 M p0 a1 a2 t.1 t.2) n (a3, a4) = some o) (hK : (fun (q : Int32) => RTX X (some .boolean) (some (.int q)) M) o) : WS X M 25 [(0, rf X.1 p0), (1, .int a1), (2, .int a2), (3, .int a3), (4, .int a4)] [] := by
  refine lp_ind (P := fun (o : Int32) (t : Int32 × Int32) => (fun (q : Int32) => RTX X (some .boolean) (some (.int q)) M) o → WS X M 25 [(0, rf X.1 p0), (1, .int a1), (2, .int a2), (3, .int t.1), (4, .int t.2)] []) (fun t o hs  hK => ?_) n (a3, a4) o h  hK
  rcases hs with h | ⟨u, h, hu⟩
  · exact b_X7_isOf_25 O hi hn h hK
  · exact b_X7_isOf_25 O hi hn h (show KI _ _ (.inr u) from hu hK)
def j_X7_isOf_21 (M : MM) (p0 : Nat) (a1 : Int32) (a2 : Int32) (s0 : Int32) : Option (Int32) :=
  lp (fun t => z_X7_isOf_25 M p0 a1 a2 t.1 t.2) FU (s0, 0)
set_option maxHeartbeats 4000000 in
set_option maxRecDepth 100000 in
theorem g_X7_isOf_21 {X : CT} {lim : Nat} {M : MM} {p0 : Nat} {a1 : Int32} {a2 : Int32} {s0 : Int32} (O : OKX X cX7_isOf RX7 2 lim 5) (hi : True) (hn : M.1 ≤ lim) {o : Int32} (h : j_X7_isOf_21 M p0 a1 a2 s0 = some o) (hK : (fun (q : Int32) => RTX X (some .boolean) (some (.int q)) M) o) : WS X M 21 [(0, rf X.1 p0), (1, .int a1), (2, .int a2)] [.int s0] := by
  unfold j_X7_isOf_21 at h
  refine s_istore_n (pc := 21) O (loc' := [(3, .int s0), (0, rf X.1 p0), (1, .int a1), (2, .int a2)]) dX7_isOf_21 rfl (by decide) rfl ?_
  refine s_iconst (pc := 22) O (v := 0) dX7_isOf_22 (by decide) ?_
  refine s_istore (pc := 23) O (loc' := [(4, .int 0), (3, .int s0), (0, rf X.1 p0), (1, .int a1), (2, .int a2)]) dX7_isOf_23 (by decide) rfl ?_
  exact s_sub (pc := 25) O [2, 3, 4, 1, 0] rfl (l_X7_isOf_25 O hi hn h hK)
def f_X7_isOf (M : MM) (p0 : Nat) (a1 : Int32) (a2 : Int32) : Option (Int32) :=
  if p0 < M.1 ∧ kd p0 = 7 then ((fR M p0 7 3).bind fun v1 => (aI M v1 ((84 + a2))).bind fun v2 => (f_X7_length M a1).bind fun v3 => if v2 = v3 then (j_X7_isOf_21 M p0 a1 a2 1) else (j_X7_isOf_21 M p0 a1 a2 0)) else none
theorem r_X7_isOf {M : MM} {p0 : Nat} {a1 : Int32} {a2 : Int32} {o : Int32} (h : f_X7_isOf M p0 a1 a2 = some o) : p0 < M.1 ∧ kd p0 = 7 := by
  unfold f_X7_isOf at h
  exact (gd h).1
theorem cy_X7_isOf : CallY yX7_isOf cX7_isOf 5 (some .boolean) 2 := ⟨by decide +kernel, tw_666, tw_47, by decide⟩
set_option maxHeartbeats 4000000 in
set_option maxRecDepth 100000 in
theorem c_X7_isOf {G : GG} {M : MM} {p0 : Nat} {a1 : Int32} {a2 : Int32} {r : Int32} (h : f_X7_isOf M p0 a1 a2 = some r) : Ct G yX7_isOf cX7_isOf 5 (some .boolean) 2 [rf G p0, .int a1, .int a2] M (some (.int r)) M := by
  refine ct_of (by decide +kernel) (Nat.le_of_ble_eq_true rfl) (fun X hX O hK hi0 => ?_)
  subst hX
  obtain ⟨lim, hlim⟩ : ∃ z, z = M.1 := ⟨_, rfl⟩
  rw [← hlim] at O
  replace O : OKX X cX7_isOf RX7 2 lim 5 := O
  have hi : True := trivial
  have hn : M.1 ≤ lim := Nat.le_of_eq hlim.symm
  show WS X M 0 [(0, rf X.1 p0), (1, .int a1), (2, .int a2)] []
  unfold f_X7_isOf at h
  obtain ⟨hg0, h⟩ := gd h
  refine s_aload_n (pc := 0) O dX7_isOf_0 rfl 0 rfl ?_
  obtain ⟨v1, e, h⟩ := bd h
  refine s_getR (pc := 1) O kc7 (k := 3) rfl tw_674 e dX7_isOf_1 ?_
  refine s_bipush (pc := 4) O (v := 84) dX7_isOf_4 (by decide) ?_
  refine s_iload_n (pc := 6) O dX7_isOf_6 rfl 2 rfl ?_
  refine s_iadd (pc := 7) O dX7_isOf_7 ?_
  obtain ⟨v2, e, h⟩ := bd h
  refine s_aldI (pc := 8) O e dX7_isOf_8 ?_
  refine s_iload_n (pc := 9) O dX7_isOf_9 rfl 1 rfl ?_
  obtain ⟨v3, e, h⟩ := bd h
  refine s_callSi (pc := 10) O (As := [.int a1]) (c_X7_length (G := X.1) e) cy_X7_length tw_650 tw_651 (by decide) rfl (Nat.le_refl _) hn rfl (Nat.le_of_ble_eq_true rfl) dX7_isOf_10 ?_
  refine s_icmp_ne (pc := 13) O (tgt := 20) dX7_isOf_13 (by decide) (fun c => ?_) (fun c => ?_)
  · have h := ifn c h
    refine s_iconst (pc := 20) O (v := 0) dX7_isOf_20 (by decide) ?_
    exact s_sub (pc := 21) O [0, 1, 2] rfl (g_X7_isOf_21 O hi hn h hK)
  · have h := ifp c h
    refine s_iconst (pc := 16) O (v := 1) dX7_isOf_16 (by decide) ?_
    refine s_goto (pc := 17) O (tgt := 21) dX7_isOf_17 (by decide) ?_
    exact s_sub (pc := 21) O [0, 1, 2] rfl (g_X7_isOf_21 O hi hn h hK)

def f_X7_shape (M : MM) (p0 : Nat) (a1 : Int32) (a2 : Int32) : Option (Int32) :=
  if p0 < M.1 ∧ kd p0 = 7 then ((f_X7_isShape M p0 a1).bind fun v1 => if v1 = 0 then (some ((-1))) else (if (0 : Int32) ≤ a2 then ((fR M p0 7 3).bind fun v2 => (aI M v2 ((84 + a1))).bind fun v3 => if v3 ≤ a2 then (some ((-5))) else ((fR M p0 7 3).bind fun v4 => (aI M v4 (((88 + (3 * a1)) + a2))).bind fun v5 => some v5)) else (some ((-1))))) else none
theorem r_X7_shape {M : MM} {p0 : Nat} {a1 : Int32} {a2 : Int32} {o : Int32} (h : f_X7_shape M p0 a1 a2 = some o) : p0 < M.1 ∧ kd p0 = 7 := by
  unfold f_X7_shape at h
  exact (gd h).1
theorem cy_X7_shape : CallY yX7_shape cX7_shape 3 (some .int) 2 := ⟨by decide +kernel, tw_792, tw_47, by decide⟩
set_option maxHeartbeats 4000000 in
set_option maxRecDepth 100000 in
theorem c_X7_shape {G : GG} {M : MM} {p0 : Nat} {a1 : Int32} {a2 : Int32} {r : Int32} (h : f_X7_shape M p0 a1 a2 = some r) : Ct G yX7_shape cX7_shape 3 (some .int) 2 [rf G p0, .int a1, .int a2] M (some (.int r)) M := by
  refine ct_of (by decide +kernel) (Nat.le_of_ble_eq_true rfl) (fun X hX O hK hi0 => ?_)
  subst hX
  obtain ⟨lim, hlim⟩ : ∃ z, z = M.1 := ⟨_, rfl⟩
  rw [← hlim] at O
  replace O : OKX X cX7_shape RX7 2 lim 3 := O
  have hi : True := trivial
  have hn : M.1 ≤ lim := Nat.le_of_eq hlim.symm
  show WS X M 0 [(0, rf X.1 p0), (1, .int a1), (2, .int a2)] []
  unfold f_X7_shape at h
  obtain ⟨hg0, h⟩ := gd h
  refine s_aload_n (pc := 0) O dX7_shape_0 rfl 0 rfl ?_
  refine s_iload_n (pc := 1) O dX7_shape_1 rfl 1 rfl ?_
  obtain ⟨v1, e, h⟩ := bd h
  refine s_callVi (pc := 2) O (As := [.int a1]) kc7 (c_X7_isShape (G := X.1) e) cy_X7_isShape tw_793 tw_795 tw_32 (by decide) rfl (Nat.le_refl _) hn (r_X7_isShape e).1 (r_X7_isShape e).2 rfl (Nat.le_of_ble_eq_true rfl) dX7_shape_2 ?_
  refine s_if_eq (pc := 5) O (tgt := 12) dX7_shape_5 (by decide) (fun c => ?_) (fun c => ?_)
  · have h := ifp c h
    refine s_iconst (pc := 12) O (v := (-1)) dX7_shape_12 (by decide) ?_
    cases h
    exact s_iret (pc := 13) O hK dX7_shape_13
  · have h := ifn c h
    refine s_iload_n (pc := 8) O dX7_shape_8 rfl 2 rfl ?_
    refine s_if_ge (pc := 9) O (tgt := 14) dX7_shape_9 (by decide) (fun c => ?_) (fun c => ?_)
    · have h := ifp c h
      refine s_iload_n (pc := 14) O dX7_shape_14 rfl 2 rfl ?_
      refine s_aload_n (pc := 15) O dX7_shape_15 rfl 0 rfl ?_
      obtain ⟨v2, e, h⟩ := bd h
      refine s_getR (pc := 16) O kc7 (k := 3) rfl tw_674 e dX7_shape_16 ?_
      refine s_bipush (pc := 19) O (v := 84) dX7_shape_19 (by decide) ?_
      refine s_iload_n (pc := 21) O dX7_shape_21 rfl 1 rfl ?_
      refine s_iadd (pc := 22) O dX7_shape_22 ?_
      obtain ⟨v3, e, h⟩ := bd h
      refine s_aldI (pc := 23) O e dX7_shape_23 ?_
      refine s_icmp_ge (pc := 24) O (tgt := 43) dX7_shape_24 (by decide) (fun c => ?_) (fun c => ?_)
      · have h := ifp c h
        refine s_bipush (pc := 43) O (v := (-5)) dX7_shape_43 (by decide) ?_
        cases h
        exact s_iret (pc := 45) O hK dX7_shape_45
      · have h := ifn c h
        refine s_aload_n (pc := 27) O dX7_shape_27 rfl 0 rfl ?_
        obtain ⟨v4, e, h⟩ := bd h
        refine s_getR (pc := 28) O kc7 (k := 3) rfl tw_674 e dX7_shape_28 ?_
        refine s_bipush (pc := 31) O (v := 88) dX7_shape_31 (by decide) ?_
        refine s_iconst (pc := 33) O (v := 3) dX7_shape_33 (by decide) ?_
        refine s_iload_n (pc := 34) O dX7_shape_34 rfl 1 rfl ?_
        refine s_imul (pc := 35) O dX7_shape_35 ?_
        refine s_iadd (pc := 36) O dX7_shape_36 ?_
        refine s_iload_n (pc := 37) O dX7_shape_37 rfl 2 rfl ?_
        refine s_iadd (pc := 38) O dX7_shape_38 ?_
        obtain ⟨v5, e, h⟩ := bd h
        refine s_aldI (pc := 39) O e dX7_shape_39 ?_
        refine s_goto (pc := 40) O (tgt := 45) dX7_shape_40 (by decide) ?_
        cases h
        exact s_iret (pc := 45) O hK dX7_shape_45
    · have h := ifn c h
      refine s_iconst (pc := 12) O (v := (-1)) dX7_shape_12 (by decide) ?_
      cases h
      exact s_iret (pc := 13) O hK dX7_shape_13

def f_X7_spell (M : MM) (p0 : Nat) (a1 : Int32) (a2 : Int32) : Option (Int32) :=
  if p0 < M.1 ∧ kd p0 = 7 then ((f_X7_isWord M p0 a1).bind fun v1 => if v1 = 0 then (some ((-1))) else (if (0 : Int32) ≤ a2 then ((fR M p0 7 3).bind fun v2 => (aI M v2 ((30 + a1))).bind fun v3 => if v3 ≤ a2 then (some ((-5))) else ((fR M p0 7 3).bind fun v4 => (aI M v4 (((39 + (5 * a1)) + a2))).bind fun v5 => some v5)) else (some ((-1))))) else none
theorem r_X7_spell {M : MM} {p0 : Nat} {a1 : Int32} {a2 : Int32} {o : Int32} (h : f_X7_spell M p0 a1 a2 = some o) : p0 < M.1 ∧ kd p0 = 7 := by
  unfold f_X7_spell at h
  exact (gd h).1
theorem cy_X7_spell : CallY yX7_spell cX7_spell 3 (some .int) 2 := ⟨by decide +kernel, tw_788, tw_47, by decide⟩
set_option maxHeartbeats 4000000 in
set_option maxRecDepth 100000 in
theorem c_X7_spell {G : GG} {M : MM} {p0 : Nat} {a1 : Int32} {a2 : Int32} {r : Int32} (h : f_X7_spell M p0 a1 a2 = some r) : Ct G yX7_spell cX7_spell 3 (some .int) 2 [rf G p0, .int a1, .int a2] M (some (.int r)) M := by
  refine ct_of (by decide +kernel) (Nat.le_of_ble_eq_true rfl) (fun X hX O hK hi0 => ?_)
  subst hX
  obtain ⟨lim, hlim⟩ : ∃ z, z = M.1 := ⟨_, rfl⟩
  rw [← hlim] at O
  replace O : OKX X cX7_spell RX7 2 lim 3 := O
  have hi : True := trivial
  have hn : M.1 ≤ lim := Nat.le_of_eq hlim.symm
  show WS X M 0 [(0, rf X.1 p0), (1, .int a1), (2, .int a2)] []
  unfold f_X7_spell at h
  obtain ⟨hg0, h⟩ := gd h
  refine s_aload_n (pc := 0) O dX7_spell_0 rfl 0 rfl ?_
  refine s_iload_n (pc := 1) O dX7_spell_1 rfl 1 rfl ?_
  obtain ⟨v1, e, h⟩ := bd h
  refine s_callVi (pc := 2) O (As := [.int a1]) kc7 (c_X7_isWord (G := X.1) e) cy_X7_isWord tw_656 tw_658 tw_20 (by decide) rfl (Nat.le_refl _) hn (r_X7_isWord e).1 (r_X7_isWord e).2 rfl (Nat.le_of_ble_eq_true rfl) dX7_spell_2 ?_
  refine s_if_eq (pc := 5) O (tgt := 12) dX7_spell_5 (by decide) (fun c => ?_) (fun c => ?_)
  · have h := ifp c h
    refine s_iconst (pc := 12) O (v := (-1)) dX7_spell_12 (by decide) ?_
    cases h
    exact s_iret (pc := 13) O hK dX7_spell_13
  · have h := ifn c h
    refine s_iload_n (pc := 8) O dX7_spell_8 rfl 2 rfl ?_
    refine s_if_ge (pc := 9) O (tgt := 14) dX7_spell_9 (by decide) (fun c => ?_) (fun c => ?_)
    · have h := ifp c h
      refine s_iload_n (pc := 14) O dX7_spell_14 rfl 2 rfl ?_
      refine s_aload_n (pc := 15) O dX7_spell_15 rfl 0 rfl ?_
      obtain ⟨v2, e, h⟩ := bd h
      refine s_getR (pc := 16) O kc7 (k := 3) rfl tw_674 e dX7_spell_16 ?_
      refine s_bipush (pc := 19) O (v := 30) dX7_spell_19 (by decide) ?_
      refine s_iload_n (pc := 21) O dX7_spell_21 rfl 1 rfl ?_
      refine s_iadd (pc := 22) O dX7_spell_22 ?_
      obtain ⟨v3, e, h⟩ := bd h
      refine s_aldI (pc := 23) O e dX7_spell_23 ?_
      refine s_icmp_ge (pc := 24) O (tgt := 43) dX7_spell_24 (by decide) (fun c => ?_) (fun c => ?_)
      · have h := ifp c h
        refine s_bipush (pc := 43) O (v := (-5)) dX7_spell_43 (by decide) ?_
        cases h
        exact s_iret (pc := 45) O hK dX7_spell_45
      · have h := ifn c h
        refine s_aload_n (pc := 27) O dX7_spell_27 rfl 0 rfl ?_
        obtain ⟨v4, e, h⟩ := bd h
        refine s_getR (pc := 28) O kc7 (k := 3) rfl tw_674 e dX7_spell_28 ?_
        refine s_bipush (pc := 31) O (v := 39) dX7_spell_31 (by decide) ?_
        refine s_iconst (pc := 33) O (v := 5) dX7_spell_33 (by decide) ?_
        refine s_iload_n (pc := 34) O dX7_spell_34 rfl 1 rfl ?_
        refine s_imul (pc := 35) O dX7_spell_35 ?_
        refine s_iadd (pc := 36) O dX7_spell_36 ?_
        refine s_iload_n (pc := 37) O dX7_spell_37 rfl 2 rfl ?_
        refine s_iadd (pc := 38) O dX7_spell_38 ?_
        obtain ⟨v5, e, h⟩ := bd h
        refine s_aldI (pc := 39) O e dX7_spell_39 ?_
        refine s_goto (pc := 40) O (tgt := 45) dX7_spell_40 (by decide) ?_
        cases h
        exact s_iret (pc := 45) O hK dX7_spell_45
    · have h := ifn c h
      refine s_iconst (pc := 12) O (v := (-1)) dX7_spell_12 (by decide) ?_
      cases h
      exact s_iret (pc := 13) O hK dX7_spell_13

def j_X7_token_102 (M : MM) (p0 : Nat) : Option ((MM) ⊕ (MM)) :=
  (fI M p0 7 13).bind fun v1 => (wfI M p0 7 13 ((v1 + 1))).bind fun M2 => (fI M2 p0 7 16).bind fun v3 => (wfI M2 p0 7 16 ((v3 + 1))).bind fun M4 => some ((.inr (M4)))
set_option maxHeartbeats 4000000 in
set_option maxRecDepth 100000 in
theorem g_X7_token_102 {X : CT} {lim : Nat} {M : MM} {p0 : Nat} (O : OKX X cX7_token RX7 2 lim 1) (hi : True) (hn : M.1 ≤ lim) {o : (MM) ⊕ (MM)} (h : j_X7_token_102 M p0 = some o) (hK : (KI (fun (q : MM) => RTX X none none q) (fun (t : MM) => t.1 ≤ lim → WS X t 54 [(0, rf X.1 p0)] [])) o) : WS X M 102 [(0, rf X.1 p0)] [] := by
  unfold j_X7_token_102 at h
  refine s_aload_n (pc := 102) O dX7_token_102 rfl 0 rfl ?_
  refine s_dup (pc := 103) O dX7_token_103 rfl ?_
  obtain ⟨v1, e, h⟩ := bd h
  refine s_getI (pc := 104) O kc7 (k := 13) rfl tw_684 e dX7_token_104 ?_
  refine s_iconst (pc := 107) O (v := 1) dX7_token_107 (by decide) ?_
  refine s_iadd (pc := 108) O dX7_token_108 ?_
  obtain ⟨M2, e, h⟩ := bd h
  refine s_putI (pc := 109) O kc7 (k := 13) rfl rfl rfl tw_684 e dX7_token_109 ?_
  have hn : M2.1 ≤ lim := by rw [wfI_n e]; exact hn
  refine s_aload_n (pc := 112) O dX7_token_112 rfl 0 rfl ?_
  refine s_dup (pc := 113) O dX7_token_113 rfl ?_
  obtain ⟨v3, e, h⟩ := bd h
  refine s_getI (pc := 114) O kc7 (k := 16) rfl tw_687 e dX7_token_114 ?_
  refine s_iconst (pc := 117) O (v := 1) dX7_token_117 (by decide) ?_
  refine s_iadd (pc := 118) O dX7_token_118 ?_
  obtain ⟨M4, e, h⟩ := bd h
  refine s_putI (pc := 119) O kc7 (k := 16) rfl rfl rfl tw_687 e dX7_token_119 ?_
  have hn : M4.1 ≤ lim := by rw [wfI_n e]; exact hn
  refine s_goto (pc := 122) O (tgt := 54) dX7_token_122 (by decide) ?_
  cases h
  exact s_sub (pc := 54) O [0] rfl (hK hn)
def j_X7_token_84 (M : MM) (p0 : Nat) : Option ((MM) ⊕ (MM)) :=
  (fI M p0 7 13).bind fun v1 => (f_X7_byteAt M p0 v1).bind fun v2 => (f_X7_sortOf M v2).bind fun v3 => (fI M p0 7 14).bind fun v4 => if v3 = v4 then (j_X7_token_102 M p0) else (some ((.inl M)))
set_option maxHeartbeats 4000000 in
set_option maxRecDepth 100000 in
theorem g_X7_token_84 {X : CT} {lim : Nat} {M : MM} {p0 : Nat} (O : OKX X cX7_token RX7 2 lim 1) (hi : True) (hn : M.1 ≤ lim) {o : (MM) ⊕ (MM)} (h : j_X7_token_84 M p0 = some o) (hK : (KI (fun (q : MM) => RTX X none none q) (fun (t : MM) => t.1 ≤ lim → WS X t 54 [(0, rf X.1 p0)] [])) o) : WS X M 84 [(0, rf X.1 p0)] [] := by
  unfold j_X7_token_84 at h
  refine s_aload_n (pc := 84) O dX7_token_84 rfl 0 rfl ?_
  refine s_aload_n (pc := 85) O dX7_token_85 rfl 0 rfl ?_
  obtain ⟨v1, e, h⟩ := bd h
  refine s_getI (pc := 86) O kc7 (k := 13) rfl tw_684 e dX7_token_86 ?_
  obtain ⟨v2, e, h⟩ := bd h
  refine s_callVi (pc := 89) O (As := [.int v1]) kc7 (c_X7_byteAt (G := X.1) e) cy_X7_byteAt tw_747 tw_749 tw_25 (by decide) rfl (Nat.le_refl _) hn (r_X7_byteAt e).1 (r_X7_byteAt e).2 rfl (Nat.le_of_ble_eq_true rfl) dX7_token_89 ?_
  obtain ⟨v3, e, h⟩ := bd h
  refine s_callSi (pc := 92) O (As := [.int v2]) (c_X7_sortOf (G := X.1) e) cy_X7_sortOf tw_751 tw_752 (by decide) rfl (Nat.le_refl _) hn rfl (Nat.le_of_ble_eq_true rfl) dX7_token_92 ?_
  refine s_aload_n (pc := 95) O dX7_token_95 rfl 0 rfl ?_
  obtain ⟨v4, e, h⟩ := bd h
  refine s_getI (pc := 96) O kc7 (k := 14) rfl tw_685 e dX7_token_96 ?_
  refine s_icmp_ne (pc := 99) O (tgt := 125) dX7_token_99 (by decide) (fun c => ?_) (fun c => ?_)
  · have h := ifn c h
    cases h
    exact s_vret (pc := 125) O hK dX7_token_125
  · have h := ifp c h
    exact s_sub (pc := 102) O [0] rfl (g_X7_token_102 O hi hn h hK)
def j_X7_token_68 (M : MM) (p0 : Nat) : Option ((MM) ⊕ (MM)) :=
  (fI M p0 7 14).bind fun v1 => if v1 = 1 then (j_X7_token_84 M p0) else ((fI M p0 7 14).bind fun v2 => if v2 = 2 then (j_X7_token_84 M p0) else (some ((.inl M))))
set_option maxHeartbeats 4000000 in
set_option maxRecDepth 100000 in
theorem g_X7_token_68 {X : CT} {lim : Nat} {M : MM} {p0 : Nat} (O : OKX X cX7_token RX7 2 lim 1) (hi : True) (hn : M.1 ≤ lim) {o : (MM) ⊕ (MM)} (h : j_X7_token_68 M p0 = some o) (hK : (KI (fun (q : MM) => RTX X none none q) (fun (t : MM) => t.1 ≤ lim → WS X t 54 [(0, rf X.1 p0)] [])) o) : WS X M 68 [(0, rf X.1 p0)] [] := by
  unfold j_X7_token_68 at h
  refine s_aload_n (pc := 68) O dX7_token_68 rfl 0 rfl ?_
  obtain ⟨v1, e, h⟩ := bd h
  refine s_getI (pc := 69) O kc7 (k := 14) rfl tw_685 e dX7_token_69 ?_
  refine s_iconst (pc := 72) O (v := 1) dX7_token_72 (by decide) ?_
  refine s_icmp_eq (pc := 73) O (tgt := 84) dX7_token_73 (by decide) (fun c => ?_) (fun c => ?_)
  · have h := ifp c h
    exact s_sub (pc := 84) O [0] rfl (g_X7_token_84 O hi hn h hK)
  · have h := ifn c h
    refine s_aload_n (pc := 76) O dX7_token_76 rfl 0 rfl ?_
    obtain ⟨v2, e, h⟩ := bd h
    refine s_getI (pc := 77) O kc7 (k := 14) rfl tw_685 e dX7_token_77 ?_
    refine s_iconst (pc := 80) O (v := 2) dX7_token_80 (by decide) ?_
    refine s_icmp_ne (pc := 81) O (tgt := 125) dX7_token_81 (by decide) (fun c => ?_) (fun c => ?_)
    · have h := ifn c h
      cases h
      exact s_vret (pc := 125) O hK dX7_token_125
    · have h := ifp c h
      exact s_sub (pc := 84) O [0] rfl (g_X7_token_84 O hi hn h hK)
def z_X7_token_54 (M : MM) (p0 : Nat) : Option ((MM) ⊕ (MM)) :=
  (fI M p0 7 16).bind fun v1 => if v1 = 0 then ((fI M p0 7 14).bind fun v2 => if v2 = 0 then (j_X7_token_68 M p0) else (j_X7_token_102 M p0)) else (j_X7_token_68 M p0)
set_option maxHeartbeats 4000000 in
set_option maxRecDepth 100000 in
theorem b_X7_token_54 {X : CT} {lim : Nat} {M : MM} {p0 : Nat} (O : OKX X cX7_token RX7 2 lim 1) (hi : True) (hn : M.1 ≤ lim) {o : (MM) ⊕ (MM)} (h : z_X7_token_54 M p0 = some o) (hK : (KI (fun (q : MM) => RTX X none none q) (fun (t : MM) => t.1 ≤ lim → WS X t 54 [(0, rf X.1 p0)] [])) o) : WS X M 54 [(0, rf X.1 p0)] [] := by
  unfold z_X7_token_54 at h
  refine s_aload_n (pc := 54) O dX7_token_54 rfl 0 rfl ?_
  obtain ⟨v1, e, h⟩ := bd h
  refine s_getI (pc := 55) O kc7 (k := 16) rfl tw_687 e dX7_token_55 ?_
  refine s_if_ne (pc := 58) O (tgt := 68) dX7_token_58 (by decide) (fun c => ?_) (fun c => ?_)
  · have h := ifn c h
    exact s_sub (pc := 68) O [0] rfl (g_X7_token_68 O hi hn h hK)
  · have h := ifp c h
    refine s_aload_n (pc := 61) O dX7_token_61 rfl 0 rfl ?_
    obtain ⟨v2, e, h⟩ := bd h
    refine s_getI (pc := 62) O kc7 (k := 14) rfl tw_685 e dX7_token_62 ?_
    refine s_if_ne (pc := 65) O (tgt := 102) dX7_token_65 (by decide) (fun c => ?_) (fun c => ?_)
    · have h := ifn c h
      exact s_sub (pc := 102) O [0] rfl (g_X7_token_102 O hi hn h hK)
    · have h := ifp c h
      exact s_sub (pc := 68) O [0] rfl (g_X7_token_68 O hi hn h hK)
set_option maxHeartbeats 4000000 in
set_option maxRecDepth 100000 in
theorem l_X7_token_54 {X : CT} {lim : Nat} {M : MM} {p0 : Nat} (O : OKX X cX7_token RX7 2 lim 1) (hi : True) (hn : M.1 ≤ lim) {o : MM} {n : Nat} (h : lp (fun t => z_X7_token_54 t p0) n (M) = some o) (hK : (fun (q : MM) => RTX X none none q) o) : WS X M 54 [(0, rf X.1 p0)] [] := by
  refine lp_ind (P := fun (o : MM) (t : MM) => t.1 ≤ lim → (fun (q : MM) => RTX X none none q) o → WS X t 54 [(0, rf X.1 p0)] []) (fun t o hs hn hK => ?_) n (M) o h hn hK
  rcases hs with h | ⟨u, h, hu⟩
  · exact b_X7_token_54 O hi hn h hK
  · exact b_X7_token_54 O hi hn h (show KI _ _ (.inr u) from fun hn => hu hn hK)
def z_X7_token_0 (M : MM) (p0 : Nat) : Option ((MM) ⊕ (MM)) :=
  (fI M p0 7 13).bind fun v1 => (f_X7_byteAt M p0 v1).bind fun v2 => if v2 = 32 then ((fI M p0 7 13).bind fun v10 => (wfI M p0 7 13 ((v10 + 1))).bind fun M11 => some ((.inr (M11)))) else (((fI M p0 7 13).bind fun v3 => (wfI M p0 7 15 v3).bind fun M4 => (fI M4 p0 7 13).bind fun v5 => (f_X7_byteAt M4 p0 v5).bind fun v6 => (f_X7_sortOf M4 v6).bind fun v7 => (wfI M4 p0 7 14 v7).bind fun M8 => (wfI M8 p0 7 16 0).bind fun M9 => lp (fun t => z_X7_token_54 t p0) FU (M9)).map .inl)
set_option maxHeartbeats 4000000 in
set_option maxRecDepth 100000 in
theorem b_X7_token_0 {X : CT} {lim : Nat} {M : MM} {p0 : Nat} (O : OKX X cX7_token RX7 2 lim 1) (hi : True) (hn : M.1 ≤ lim) {o : (MM) ⊕ (MM)} (h : z_X7_token_0 M p0 = some o) (hK : (KI (fun (q : MM) => RTX X none none q) (fun (t : MM) => t.1 ≤ lim → WS X t 0 [(0, rf X.1 p0)] [])) o) : WS X M 0 [(0, rf X.1 p0)] [] := by
  unfold z_X7_token_0 at h
  refine s_aload_n (pc := 0) O dX7_token_0 rfl 0 rfl ?_
  refine s_aload_n (pc := 1) O dX7_token_1 rfl 0 rfl ?_
  obtain ⟨v1, e, h⟩ := bd h
  refine s_getI (pc := 2) O kc7 (k := 13) rfl tw_684 e dX7_token_2 ?_
  obtain ⟨v2, e, h⟩ := bd h
  refine s_callVi (pc := 5) O (As := [.int v1]) kc7 (c_X7_byteAt (G := X.1) e) cy_X7_byteAt tw_747 tw_749 tw_25 (by decide) rfl (Nat.le_refl _) hn (r_X7_byteAt e).1 (r_X7_byteAt e).2 rfl (Nat.le_of_ble_eq_true rfl) dX7_token_5 ?_
  refine s_bipush (pc := 8) O (v := 32) dX7_token_8 (by decide) ?_
  refine s_icmp_ne (pc := 10) O (tgt := 26) dX7_token_10 (by decide) (fun c => ?_) (fun c => ?_)
  · have h := ifn c h
    obtain ⟨q0, hq0, ho0⟩ := mpi h; subst ho0; replace h := hq0
    refine s_aload_n (pc := 26) O dX7_token_26 rfl 0 rfl ?_
    refine s_aload_n (pc := 27) O dX7_token_27 rfl 0 rfl ?_
    obtain ⟨v3, e, h⟩ := bd h
    refine s_getI (pc := 28) O kc7 (k := 13) rfl tw_684 e dX7_token_28 ?_
    obtain ⟨M4, e, h⟩ := bd h
    refine s_putI (pc := 31) O kc7 (k := 15) rfl rfl rfl tw_686 e dX7_token_31 ?_
    have hn : M4.1 ≤ lim := by rw [wfI_n e]; exact hn
    refine s_aload_n (pc := 34) O dX7_token_34 rfl 0 rfl ?_
    refine s_aload_n (pc := 35) O dX7_token_35 rfl 0 rfl ?_
    refine s_aload_n (pc := 36) O dX7_token_36 rfl 0 rfl ?_
    obtain ⟨v5, e, h⟩ := bd h
    refine s_getI (pc := 37) O kc7 (k := 13) rfl tw_684 e dX7_token_37 ?_
    obtain ⟨v6, e, h⟩ := bd h
    refine s_callVi (pc := 40) O (As := [.int v5]) kc7 (c_X7_byteAt (G := X.1) e) cy_X7_byteAt tw_747 tw_749 tw_25 (by decide) rfl (Nat.le_refl _) hn (r_X7_byteAt e).1 (r_X7_byteAt e).2 rfl (Nat.le_of_ble_eq_true rfl) dX7_token_40 ?_
    obtain ⟨v7, e, h⟩ := bd h
    refine s_callSi (pc := 43) O (As := [.int v6]) (c_X7_sortOf (G := X.1) e) cy_X7_sortOf tw_751 tw_752 (by decide) rfl (Nat.le_refl _) hn rfl (Nat.le_of_ble_eq_true rfl) dX7_token_43 ?_
    obtain ⟨M8, e, h⟩ := bd h
    refine s_putI (pc := 46) O kc7 (k := 14) rfl rfl rfl tw_685 e dX7_token_46 ?_
    have hn : M8.1 ≤ lim := by rw [wfI_n e]; exact hn
    refine s_aload_n (pc := 49) O dX7_token_49 rfl 0 rfl ?_
    refine s_iconst (pc := 50) O (v := 0) dX7_token_50 (by decide) ?_
    obtain ⟨M9, e, h⟩ := bd h
    refine s_putI (pc := 51) O kc7 (k := 16) rfl rfl rfl tw_687 e dX7_token_51 ?_
    have hn : M9.1 ≤ lim := by rw [wfI_n e]; exact hn
    exact s_sub (pc := 54) O [0] rfl (l_X7_token_54 O hi hn h hK)
  · have h := ifp c h
    refine s_aload_n (pc := 13) O dX7_token_13 rfl 0 rfl ?_
    refine s_dup (pc := 14) O dX7_token_14 rfl ?_
    obtain ⟨v10, e, h⟩ := bd h
    refine s_getI (pc := 15) O kc7 (k := 13) rfl tw_684 e dX7_token_15 ?_
    refine s_iconst (pc := 18) O (v := 1) dX7_token_18 (by decide) ?_
    refine s_iadd (pc := 19) O dX7_token_19 ?_
    obtain ⟨M11, e, h⟩ := bd h
    refine s_putI (pc := 20) O kc7 (k := 13) rfl rfl rfl tw_684 e dX7_token_20 ?_
    have hn : M11.1 ≤ lim := by rw [wfI_n e]; exact hn
    refine s_goto (pc := 23) O (tgt := 0) dX7_token_23 (by decide) ?_
    cases h
    exact s_sub (pc := 0) O [0] rfl (hK hn)
set_option maxHeartbeats 4000000 in
set_option maxRecDepth 100000 in
theorem l_X7_token_0 {X : CT} {lim : Nat} {M : MM} {p0 : Nat} (O : OKX X cX7_token RX7 2 lim 1) (hi : True) (hn : M.1 ≤ lim) {o : MM} {n : Nat} (h : lp (fun t => z_X7_token_0 t p0) n (M) = some o) (hK : (fun (q : MM) => RTX X none none q) o) : WS X M 0 [(0, rf X.1 p0)] [] := by
  refine lp_ind (P := fun (o : MM) (t : MM) => t.1 ≤ lim → (fun (q : MM) => RTX X none none q) o → WS X t 0 [(0, rf X.1 p0)] []) (fun t o hs hn hK => ?_) n (M) o h hn hK
  rcases hs with h | ⟨u, h, hu⟩
  · exact b_X7_token_0 O hi hn h hK
  · exact b_X7_token_0 O hi hn h (show KI _ _ (.inr u) from fun hn => hu hn hK)
def f_X7_token (M : MM) (p0 : Nat) : Option (MM) :=
  if p0 < M.1 ∧ kd p0 = 7 then (lp (fun t => z_X7_token_0 t p0) FU (M)) else none
theorem r_X7_token {M : MM} {p0 : Nat} {o : MM} (h : f_X7_token M p0 = some o) : p0 < M.1 ∧ kd p0 = 7 := by
  unfold f_X7_token at h
  exact (gd h).1
theorem cy_X7_token : CallY yX7_token cX7_token 1 (none) 0 := ⟨by decide +kernel, tw_746, tw_47, by decide⟩
set_option maxHeartbeats 4000000 in
set_option maxRecDepth 100000 in
theorem c_X7_token {G : GG} {M : MM} {p0 : Nat} {M' : MM} (h : f_X7_token M p0 = some M') (hn : M.1 ≤ M'.1) : Ct G yX7_token cX7_token 1 (none) 2 [rf G p0] M (none) M' := by
  refine ct_of (by decide +kernel) (Nat.le_of_ble_eq_true rfl) (fun X hX O hK hi0 => ?_)
  subst hX
  obtain ⟨lim, hlim⟩ : ∃ z, z = M'.1 := ⟨_, rfl⟩
  rw [← hlim] at O hn
  replace O : OKX X cX7_token RX7 2 lim 1 := O
  have hi : True := trivial
  show WS X M 0 [(0, rf X.1 p0)] []
  unfold f_X7_token at h
  obtain ⟨hg0, h⟩ := gd h
  exact s_sub (pc := 0) O [0] rfl (l_X7_token_0 O hi hn h hK)

def f_X7_word (M : MM) (p0 : Nat) (a1 : Int32) (a2 : Int32) : Option (Int32) :=
  if p0 < M.1 ∧ kd p0 = 7 then ((f_X7_isWord M p0 a1).bind fun v1 => if v1 = 0 then (some ((-1))) else ((f_X7_in M a2 0 3).bind fun v2 => if v2 = 0 then (some ((-1))) else (if a2 = 0 then ((fR M p0 7 3).bind fun v9 => (aI M v9 ((30 + a1))).bind fun v10 => some v10) else (if a2 = 1 then ((fR M p0 7 3).bind fun v7 => (aI M v7 ((3 + a1))).bind fun v8 => some v8) else (if a2 = 2 then ((fR M p0 7 3).bind fun v5 => (aI M v5 ((12 + a1))).bind fun v6 => some v6) else ((fR M p0 7 3).bind fun v3 => (aI M v3 ((21 + a1))).bind fun v4 => some v4)))))) else none
theorem r_X7_word {M : MM} {p0 : Nat} {a1 : Int32} {a2 : Int32} {o : Int32} (h : f_X7_word M p0 a1 a2 = some o) : p0 < M.1 ∧ kd p0 = 7 := by
  unfold f_X7_word at h
  exact (gd h).1
theorem cy_X7_word : CallY yX7_word cX7_word 3 (some .int) 2 := ⟨by decide +kernel, tw_784, tw_47, by decide⟩
set_option maxHeartbeats 4000000 in
set_option maxRecDepth 100000 in
theorem c_X7_word {G : GG} {M : MM} {p0 : Nat} {a1 : Int32} {a2 : Int32} {r : Int32} (h : f_X7_word M p0 a1 a2 = some r) : Ct G yX7_word cX7_word 3 (some .int) 2 [rf G p0, .int a1, .int a2] M (some (.int r)) M := by
  refine ct_of (by decide +kernel) (Nat.le_of_ble_eq_true rfl) (fun X hX O hK hi0 => ?_)
  subst hX
  obtain ⟨lim, hlim⟩ : ∃ z, z = M.1 := ⟨_, rfl⟩
  rw [← hlim] at O
  replace O : OKX X cX7_word RX7 2 lim 3 := O
  have hi : True := trivial
  have hn : M.1 ≤ lim := Nat.le_of_eq hlim.symm
  show WS X M 0 [(0, rf X.1 p0), (1, .int a1), (2, .int a2)] []
  unfold f_X7_word at h
  obtain ⟨hg0, h⟩ := gd h
  refine s_aload_n (pc := 0) O dX7_word_0 rfl 0 rfl ?_
  refine s_iload_n (pc := 1) O dX7_word_1 rfl 1 rfl ?_
  obtain ⟨v1, e, h⟩ := bd h
  refine s_callVi (pc := 2) O (As := [.int a1]) kc7 (c_X7_isWord (G := X.1) e) cy_X7_isWord tw_656 tw_658 tw_20 (by decide) rfl (Nat.le_refl _) hn (r_X7_isWord e).1 (r_X7_isWord e).2 rfl (Nat.le_of_ble_eq_true rfl) dX7_word_2 ?_
  refine s_if_eq (pc := 5) O (tgt := 17) dX7_word_5 (by decide) (fun c => ?_) (fun c => ?_)
  · have h := ifp c h
    refine s_iconst (pc := 17) O (v := (-1)) dX7_word_17 (by decide) ?_
    cases h
    exact s_iret (pc := 18) O hK dX7_word_18
  · have h := ifn c h
    refine s_iload_n (pc := 8) O dX7_word_8 rfl 2 rfl ?_
    refine s_iconst (pc := 9) O (v := 0) dX7_word_9 (by decide) ?_
    refine s_iconst (pc := 10) O (v := 3) dX7_word_10 (by decide) ?_
    obtain ⟨v2, e, h⟩ := bd h
    refine s_callSi (pc := 11) O (As := [.int a2, .int 0, .int 3]) (c_X7_in (G := X.1) e) cy_X7_in tw_660 tw_661 (by decide) rfl (Nat.le_refl _) hn rfl (Nat.le_of_ble_eq_true rfl) dX7_word_11 ?_
    refine s_if_ne (pc := 14) O (tgt := 19) dX7_word_14 (by decide) (fun c => ?_) (fun c => ?_)
    · have h := ifn c h
      refine s_iload_n (pc := 19) O dX7_word_19 rfl 2 rfl ?_
      refine s_if_ne (pc := 20) O (tgt := 35) dX7_word_20 (by decide) (fun c => ?_) (fun c => ?_)
      · have h := ifn c h
        refine s_iload_n (pc := 35) O dX7_word_35 rfl 2 rfl ?_
        refine s_iconst (pc := 36) O (v := 1) dX7_word_36 (by decide) ?_
        refine s_icmp_ne (pc := 37) O (tgt := 51) dX7_word_37 (by decide) (fun c => ?_) (fun c => ?_)
        · have h := ifn c h
          refine s_iload_n (pc := 51) O dX7_word_51 rfl 2 rfl ?_
          refine s_iconst (pc := 52) O (v := 2) dX7_word_52 (by decide) ?_
          refine s_icmp_ne (pc := 53) O (tgt := 68) dX7_word_53 (by decide) (fun c => ?_) (fun c => ?_)
          · have h := ifn c h
            refine s_aload_n (pc := 68) O dX7_word_68 rfl 0 rfl ?_
            obtain ⟨v3, e, h⟩ := bd h
            refine s_getR (pc := 69) O kc7 (k := 3) rfl tw_674 e dX7_word_69 ?_
            refine s_bipush (pc := 72) O (v := 21) dX7_word_72 (by decide) ?_
            refine s_iload_n (pc := 74) O dX7_word_74 rfl 1 rfl ?_
            refine s_iadd (pc := 75) O dX7_word_75 ?_
            obtain ⟨v4, e, h⟩ := bd h
            refine s_aldI (pc := 76) O e dX7_word_76 ?_
            cases h
            exact s_iret (pc := 77) O hK dX7_word_77
          · have h := ifp c h
            refine s_aload_n (pc := 56) O dX7_word_56 rfl 0 rfl ?_
            obtain ⟨v5, e, h⟩ := bd h
            refine s_getR (pc := 57) O kc7 (k := 3) rfl tw_674 e dX7_word_57 ?_
            refine s_bipush (pc := 60) O (v := 12) dX7_word_60 (by decide) ?_
            refine s_iload_n (pc := 62) O dX7_word_62 rfl 1 rfl ?_
            refine s_iadd (pc := 63) O dX7_word_63 ?_
            obtain ⟨v6, e, h⟩ := bd h
            refine s_aldI (pc := 64) O e dX7_word_64 ?_
            refine s_goto (pc := 65) O (tgt := 77) dX7_word_65 (by decide) ?_
            cases h
            exact s_iret (pc := 77) O hK dX7_word_77
        · have h := ifp c h
          refine s_aload_n (pc := 40) O dX7_word_40 rfl 0 rfl ?_
          obtain ⟨v7, e, h⟩ := bd h
          refine s_getR (pc := 41) O kc7 (k := 3) rfl tw_674 e dX7_word_41 ?_
          refine s_iconst (pc := 44) O (v := 3) dX7_word_44 (by decide) ?_
          refine s_iload_n (pc := 45) O dX7_word_45 rfl 1 rfl ?_
          refine s_iadd (pc := 46) O dX7_word_46 ?_
          obtain ⟨v8, e, h⟩ := bd h
          refine s_aldI (pc := 47) O e dX7_word_47 ?_
          refine s_goto (pc := 48) O (tgt := 77) dX7_word_48 (by decide) ?_
          cases h
          exact s_iret (pc := 77) O hK dX7_word_77
      · have h := ifp c h
        refine s_aload_n (pc := 23) O dX7_word_23 rfl 0 rfl ?_
        obtain ⟨v9, e, h⟩ := bd h
        refine s_getR (pc := 24) O kc7 (k := 3) rfl tw_674 e dX7_word_24 ?_
        refine s_bipush (pc := 27) O (v := 30) dX7_word_27 (by decide) ?_
        refine s_iload_n (pc := 29) O dX7_word_29 rfl 1 rfl ?_
        refine s_iadd (pc := 30) O dX7_word_30 ?_
        obtain ⟨v10, e, h⟩ := bd h
        refine s_aldI (pc := 31) O e dX7_word_31 ?_
        refine s_goto (pc := 32) O (tgt := 77) dX7_word_32 (by decide) ?_
        cases h
        exact s_iret (pc := 77) O hK dX7_word_77
    · have h := ifp c h
      refine s_iconst (pc := 17) O (v := (-1)) dX7_word_17 (by decide) ?_
      cases h
      exact s_iret (pc := 18) O hK dX7_word_18

def j_X7_written_54 (M : MM) (p0 : Nat) (a1 : Int32) (a3 : Int32) (a4 : Int32) (a5 : Int32) (s0 : Int32) (s1 : Int32) : Option (((Int32) ⊕ (Int32 × Int32)) ⊕ (Int32 × Int32)) :=
  some ((.inr ((s1 + s0), (a5 + 1))))
set_option maxHeartbeats 4000000 in
set_option maxRecDepth 100000 in
theorem g_X7_written_54 {X : CT} {lim : Nat} {M : MM} {p0 : Nat} {a1 : Int32} {a3 : Int32} {a4 : Int32} {a5 : Int32} {s0 : Int32} {s1 : Int32} (O : OKX X cX7_written RX7 2 lim 6) (hi : True) (hn : M.1 ≤ lim) {o : ((Int32) ⊕ (Int32 × Int32)) ⊕ (Int32 × Int32)} (h : j_X7_written_54 M p0 a1 a3 a4 a5 s0 s1 = some o) (hK : (KI (KI (fun (q : Int32) => RTX X (some .int) (some (.int q)) M) (fun (t : Int32 × Int32) => WS X M 4 [(0, rf X.1 p0), (1, .int a1), (2, .int t.1), (3, .int t.2)] [])) (fun (t : Int32 × Int32) => WS X M 27 [(0, rf X.1 p0), (1, .int a1), (2, .int t.1), (3, .int a3), (4, .int a4), (5, .int t.2)] [])) o) : WS X M 54 [(0, rf X.1 p0), (1, .int a1), (3, .int a3), (4, .int a4), (5, .int a5)] [.int s0, .int s1] := by
  unfold j_X7_written_54 at h
  refine s_iadd (pc := 54) O dX7_written_54 ?_
  refine s_istore_n (pc := 55) O (loc' := [(2, .int (s1 + s0)), (0, rf X.1 p0), (1, .int a1), (3, .int a3), (4, .int a4), (5, .int a5)]) dX7_written_55 rfl (by decide) rfl ?_
  refine s_iinc (pc := 56) O (v := (a5 + 1)) (loc' := [(5, .int (a5 + 1)), (2, .int (s1 + s0)), (0, rf X.1 p0), (1, .int a1), (3, .int a3), (4, .int a4)]) dX7_written_56 5 rfl rfl (by decide) rfl ?_
  refine s_goto (pc := 59) O (tgt := 27) dX7_written_59 (by decide) ?_
  cases h
  exact s_sub (pc := 27) O [2, 3, 1, 4, 5, 0] rfl hK
def z_X7_written_27 (M : MM) (p0 : Nat) (a1 : Int32) (a3 : Int32) (a4 : Int32) (a2 : Int32) (a5 : Int32) : Option (((Int32) ⊕ (Int32 × Int32)) ⊕ (Int32 × Int32)) :=
  (f_X7_length M a4).bind fun v1 => if v1 ≤ a5 then (some ((.inl (.inr (a2, (a3 + 1)))))) else ((f_X7_wordOf M a4 a5).bind fun v2 => if v2 = a1 then (j_X7_written_54 M p0 a1 a3 a4 a5 1 a2) else (j_X7_written_54 M p0 a1 a3 a4 a5 0 a2))
set_option maxHeartbeats 4000000 in
set_option maxRecDepth 100000 in
theorem b_X7_written_27 {X : CT} {lim : Nat} {M : MM} {p0 : Nat} {a1 : Int32} {a3 : Int32} {a4 : Int32} {a2 : Int32} {a5 : Int32} (O : OKX X cX7_written RX7 2 lim 6) (hi : True) (hn : M.1 ≤ lim) {o : ((Int32) ⊕ (Int32 × Int32)) ⊕ (Int32 × Int32)} (h : z_X7_written_27 M p0 a1 a3 a4 a2 a5 = some o) (hK : (KI (KI (fun (q : Int32) => RTX X (some .int) (some (.int q)) M) (fun (t : Int32 × Int32) => WS X M 4 [(0, rf X.1 p0), (1, .int a1), (2, .int t.1), (3, .int t.2)] [])) (fun (t : Int32 × Int32) => WS X M 27 [(0, rf X.1 p0), (1, .int a1), (2, .int t.1), (3, .int a3), (4, .int a4), (5, .int t.2)] [])) o) : WS X M 27 [(0, rf X.1 p0), (1, .int a1), (2, .int a2), (3, .int a3), (4, .int a4), (5, .int a5)] [] := by
  unfold z_X7_written_27 at h
  refine s_iload (pc := 27) O dX7_written_27 5 rfl ?_
  refine s_iload (pc := 29) O dX7_written_29 4 rfl ?_
  obtain ⟨v1, e, h⟩ := bd h
  refine s_callSi (pc := 31) O (As := [.int a4]) (c_X7_length (G := X.1) e) cy_X7_length tw_650 tw_651 (by decide) rfl (Nat.le_refl _) hn rfl (Nat.le_of_ble_eq_true rfl) dX7_written_31 ?_
  refine s_icmp_ge (pc := 34) O (tgt := 62) dX7_written_34 (by decide) (fun c => ?_) (fun c => ?_)
  · have h := ifp c h
    refine s_iinc (pc := 62) O (v := (a3 + 1)) (loc' := [(3, .int (a3 + 1)), (0, rf X.1 p0), (1, .int a1), (2, .int a2), (4, .int a4), (5, .int a5)]) dX7_written_62 3 rfl rfl (by decide) rfl ?_
    refine s_goto (pc := 65) O (tgt := 4) dX7_written_65 (by decide) ?_
    cases h
    exact s_sub (pc := 4) O [1, 2, 3, 0] rfl hK
  · have h := ifn c h
    refine s_iload_n (pc := 37) O dX7_written_37 rfl 2 rfl ?_
    refine s_iload (pc := 38) O dX7_written_38 4 rfl ?_
    refine s_iload (pc := 40) O dX7_written_40 5 rfl ?_
    obtain ⟨v2, e, h⟩ := bd h
    refine s_callSi (pc := 42) O (As := [.int a4, .int a5]) (c_X7_wordOf (G := X.1) e) cy_X7_wordOf tw_653 tw_654 (by decide) rfl (Nat.le_refl _) hn rfl (Nat.le_of_ble_eq_true rfl) dX7_written_42 ?_
    refine s_iload_n (pc := 45) O dX7_written_45 rfl 1 rfl ?_
    refine s_icmp_ne (pc := 46) O (tgt := 53) dX7_written_46 (by decide) (fun c => ?_) (fun c => ?_)
    · have h := ifn c h
      refine s_iconst (pc := 53) O (v := 0) dX7_written_53 (by decide) ?_
      exact s_sub (pc := 54) O [0, 1, 3, 4, 5] rfl (g_X7_written_54 O hi hn h hK)
    · have h := ifp c h
      refine s_iconst (pc := 49) O (v := 1) dX7_written_49 (by decide) ?_
      refine s_goto (pc := 50) O (tgt := 54) dX7_written_50 (by decide) ?_
      exact s_sub (pc := 54) O [0, 1, 3, 4, 5] rfl (g_X7_written_54 O hi hn h hK)
set_option maxHeartbeats 4000000 in
set_option maxRecDepth 100000 in
theorem l_X7_written_27 {X : CT} {lim : Nat} {M : MM} {p0 : Nat} {a1 : Int32} {a3 : Int32} {a4 : Int32} {a2 : Int32} {a5 : Int32} (O : OKX X cX7_written RX7 2 lim 6) (hi : True) (hn : M.1 ≤ lim) {o : (Int32) ⊕ (Int32 × Int32)} {n : Nat} (h : lp (fun t => z_X7_written_27 M p0 a1 a3 a4 t.1 t.2) n (a2, a5) = some o) (hK : (KI (fun (q : Int32) => RTX X (some .int) (some (.int q)) M) (fun (t : Int32 × Int32) => WS X M 4 [(0, rf X.1 p0), (1, .int a1), (2, .int t.1), (3, .int t.2)] [])) o) : WS X M 27 [(0, rf X.1 p0), (1, .int a1), (2, .int a2), (3, .int a3), (4, .int a4), (5, .int a5)] [] := by
  refine lp_ind (P := fun (o : (Int32) ⊕ (Int32 × Int32)) (t : Int32 × Int32) => (KI (fun (q : Int32) => RTX X (some .int) (some (.int q)) M) (fun (t : Int32 × Int32) => WS X M 4 [(0, rf X.1 p0), (1, .int a1), (2, .int t.1), (3, .int t.2)] [])) o → WS X M 27 [(0, rf X.1 p0), (1, .int a1), (2, .int t.1), (3, .int a3), (4, .int a4), (5, .int t.2)] []) (fun t o hs  hK => ?_) n (a2, a5) o h  hK
  rcases hs with h | ⟨u, h, hu⟩
  · exact b_X7_written_27 O hi hn h hK
  · exact b_X7_written_27 O hi hn h (show KI _ _ (.inr u) from hu hK)
def z_X7_written_4 (M : MM) (p0 : Nat) (a1 : Int32) (a2 : Int32) (a3 : Int32) : Option ((Int32) ⊕ (Int32 × Int32)) :=
  (fR M p0 7 5).bind fun v1 => (aI M v1 0).bind fun v2 => if v2 ≤ a3 then (some ((.inl a2))) else ((fR M p0 7 5).bind fun v3 => (aI M v3 ((a3 + 1))).bind fun v4 => lp (fun t => z_X7_written_27 M p0 a1 a3 v4 t.1 t.2) FU (a2, 0))
set_option maxHeartbeats 4000000 in
set_option maxRecDepth 100000 in
theorem b_X7_written_4 {X : CT} {lim : Nat} {M : MM} {p0 : Nat} {a1 : Int32} {a2 : Int32} {a3 : Int32} (O : OKX X cX7_written RX7 2 lim 6) (hi : True) (hn : M.1 ≤ lim) {o : (Int32) ⊕ (Int32 × Int32)} (h : z_X7_written_4 M p0 a1 a2 a3 = some o) (hK : (KI (fun (q : Int32) => RTX X (some .int) (some (.int q)) M) (fun (t : Int32 × Int32) => WS X M 4 [(0, rf X.1 p0), (1, .int a1), (2, .int t.1), (3, .int t.2)] [])) o) : WS X M 4 [(0, rf X.1 p0), (1, .int a1), (2, .int a2), (3, .int a3)] [] := by
  unfold z_X7_written_4 at h
  refine s_iload_n (pc := 4) O dX7_written_4 rfl 3 rfl ?_
  refine s_aload_n (pc := 5) O dX7_written_5 rfl 0 rfl ?_
  obtain ⟨v1, e, h⟩ := bd h
  refine s_getR (pc := 6) O kc7 (k := 5) rfl tw_676 e dX7_written_6 ?_
  refine s_iconst (pc := 9) O (v := 0) dX7_written_9 (by decide) ?_
  obtain ⟨v2, e, h⟩ := bd h
  refine s_aldI (pc := 10) O e dX7_written_10 ?_
  refine s_icmp_ge (pc := 11) O (tgt := 68) dX7_written_11 (by decide) (fun c => ?_) (fun c => ?_)
  · have h := ifp c h
    refine s_iload_n (pc := 68) O dX7_written_68 rfl 2 rfl ?_
    cases h
    exact s_iret (pc := 69) O hK dX7_written_69
  · have h := ifn c h
    refine s_aload_n (pc := 14) O dX7_written_14 rfl 0 rfl ?_
    obtain ⟨v3, e, h⟩ := bd h
    refine s_getR (pc := 15) O kc7 (k := 5) rfl tw_676 e dX7_written_15 ?_
    refine s_iload_n (pc := 18) O dX7_written_18 rfl 3 rfl ?_
    refine s_iconst (pc := 19) O (v := 1) dX7_written_19 (by decide) ?_
    refine s_iadd (pc := 20) O dX7_written_20 ?_
    obtain ⟨v4, e, h⟩ := bd h
    refine s_aldI (pc := 21) O e dX7_written_21 ?_
    refine s_istore (pc := 22) O (loc' := [(4, .int v4), (0, rf X.1 p0), (1, .int a1), (2, .int a2), (3, .int a3)]) dX7_written_22 (by decide) rfl ?_
    refine s_iconst (pc := 24) O (v := 0) dX7_written_24 (by decide) ?_
    refine s_istore (pc := 25) O (loc' := [(5, .int 0), (4, .int v4), (0, rf X.1 p0), (1, .int a1), (2, .int a2), (3, .int a3)]) dX7_written_25 (by decide) rfl ?_
    exact s_sub (pc := 27) O [2, 3, 4, 5, 1, 0] rfl (l_X7_written_27 O hi hn h hK)
set_option maxHeartbeats 4000000 in
set_option maxRecDepth 100000 in
theorem l_X7_written_4 {X : CT} {lim : Nat} {M : MM} {p0 : Nat} {a1 : Int32} {a2 : Int32} {a3 : Int32} (O : OKX X cX7_written RX7 2 lim 6) (hi : True) (hn : M.1 ≤ lim) {o : Int32} {n : Nat} (h : lp (fun t => z_X7_written_4 M p0 a1 t.1 t.2) n (a2, a3) = some o) (hK : (fun (q : Int32) => RTX X (some .int) (some (.int q)) M) o) : WS X M 4 [(0, rf X.1 p0), (1, .int a1), (2, .int a2), (3, .int a3)] [] := by
  refine lp_ind (P := fun (o : Int32) (t : Int32 × Int32) => (fun (q : Int32) => RTX X (some .int) (some (.int q)) M) o → WS X M 4 [(0, rf X.1 p0), (1, .int a1), (2, .int t.1), (3, .int t.2)] []) (fun t o hs  hK => ?_) n (a2, a3) o h  hK
  rcases hs with h | ⟨u, h, hu⟩
  · exact b_X7_written_4 O hi hn h hK
  · exact b_X7_written_4 O hi hn h (show KI _ _ (.inr u) from hu hK)
def f_X7_written (M : MM) (p0 : Nat) (a1 : Int32) : Option (Int32) :=
  if p0 < M.1 ∧ kd p0 = 7 then (lp (fun t => z_X7_written_4 M p0 a1 t.1 t.2) FU (0, 0)) else none
theorem r_X7_written {M : MM} {p0 : Nat} {a1 : Int32} {o : Int32} (h : f_X7_written M p0 a1 = some o) : p0 < M.1 ∧ kd p0 = 7 := by
  unfold f_X7_written at h
  exact (gd h).1
theorem cy_X7_written : CallY yX7_written cX7_written 6 (some .int) 1 := ⟨by decide +kernel, tw_899, tw_47, by decide⟩
set_option maxHeartbeats 4000000 in
set_option maxRecDepth 100000 in
theorem c_X7_written {G : GG} {M : MM} {p0 : Nat} {a1 : Int32} {r : Int32} (h : f_X7_written M p0 a1 = some r) : Ct G yX7_written cX7_written 6 (some .int) 2 [rf G p0, .int a1] M (some (.int r)) M := by
  refine ct_of (by decide +kernel) (Nat.le_of_ble_eq_true rfl) (fun X hX O hK hi0 => ?_)
  subst hX
  obtain ⟨lim, hlim⟩ : ∃ z, z = M.1 := ⟨_, rfl⟩
  rw [← hlim] at O
  replace O : OKX X cX7_written RX7 2 lim 6 := O
  have hi : True := trivial
  have hn : M.1 ≤ lim := Nat.le_of_eq hlim.symm
  show WS X M 0 [(0, rf X.1 p0), (1, .int a1)] []
  unfold f_X7_written at h
  obtain ⟨hg0, h⟩ := gd h
  refine s_iconst (pc := 0) O (v := 0) dX7_written_0 (by decide) ?_
  refine s_istore_n (pc := 1) O (loc' := [(2, .int 0), (0, rf X.1 p0), (1, .int a1)]) dX7_written_1 rfl (by decide) rfl ?_
  refine s_iconst (pc := 2) O (v := 0) dX7_written_2 (by decide) ?_
  refine s_istore_n (pc := 3) O (loc' := [(3, .int 0), (2, .int 0), (0, rf X.1 p0), (1, .int a1)]) dX7_written_3 rfl (by decide) rfl ?_
  exact s_sub (pc := 4) O [2, 3, 1, 0] rfl (l_X7_written_4 O hi hn h hK)

