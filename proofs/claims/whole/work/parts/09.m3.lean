def j_X7_best_89 (M : MM) (p0 : Nat) (a1 : Int32) (a3 : Int32) (a4 : Int32) (s0 : Int32) : Option ((Int32) ⊕ (Int32 × Int32 × Int32)) :=
  some ((.inr (s0, a3, (a4 + 1))))
set_option maxHeartbeats 4000000 in
set_option maxRecDepth 100000 in
theorem g_X7_best_89 {X : CT} {lim : Nat} {M : MM} {p0 : Nat} {a1 : Int32} {a3 : Int32} {a4 : Int32} {s0 : Int32} (O : OKX X cX7_best RX7 4 lim 7) (hi : True) (hn : M.1 ≤ lim) {o : (Int32) ⊕ (Int32 × Int32 × Int32)} (h : j_X7_best_89 M p0 a1 a3 a4 s0 = some o) (hK : (KI (fun (q : Int32) => RTX X (some .int) (some (.int q)) M) (fun (t : Int32 × Int32 × Int32) => WS X M 20 [(0, rf X.1 p0), (1, .int a1), (2, .int t.1), (3, .int t.2.1), (4, .int t.2.2)] [])) o) : WS X M 89 [(0, rf X.1 p0), (1, .int a1), (3, .int a3), (4, .int a4)] [.int s0] := by
  unfold j_X7_best_89 at h
  refine s_istore_n (pc := 89) O (loc' := [(2, .int s0), (0, rf X.1 p0), (1, .int a1), (3, .int a3), (4, .int a4)]) dX7_best_89 rfl (by decide) rfl ?_
  refine s_iinc (pc := 90) O (v := (a4 + 1)) (loc' := [(4, .int (a4 + 1)), (2, .int s0), (0, rf X.1 p0), (1, .int a1), (3, .int a3)]) dX7_best_90 4 rfl rfl (by decide) rfl ?_
  refine s_goto (pc := 93) O (tgt := 20) dX7_best_93 (by decide) ?_
  cases h
  exact s_sub (pc := 20) O [2, 3, 1, 4, 0] rfl hK
def j_X7_best_76 (M : MM) (p0 : Nat) (a1 : Int32) (a2 : Int32) (a4 : Int32) (a6 : Int32) (s0 : Int32) : Option ((Int32) ⊕ (Int32 × Int32 × Int32)) :=
  if a6 ≤ a2 then (j_X7_best_89 M p0 a1 s0 a4 a2) else (j_X7_best_89 M p0 a1 s0 a4 a6)
set_option maxHeartbeats 4000000 in
set_option maxRecDepth 100000 in
theorem g_X7_best_76 {X : CT} {lim : Nat} {M : MM} {p0 : Nat} {a1 : Int32} {a2 : Int32} {a4 : Int32} {a6 : Int32} {s0 : Int32} (O : OKX X cX7_best RX7 4 lim 7) (hi : True) (hn : M.1 ≤ lim) {o : (Int32) ⊕ (Int32 × Int32 × Int32)} (h : j_X7_best_76 M p0 a1 a2 a4 a6 s0 = some o) (hK : (KI (fun (q : Int32) => RTX X (some .int) (some (.int q)) M) (fun (t : Int32 × Int32 × Int32) => WS X M 20 [(0, rf X.1 p0), (1, .int a1), (2, .int t.1), (3, .int t.2.1), (4, .int t.2.2)] [])) o) : WS X M 76 [(0, rf X.1 p0), (1, .int a1), (2, .int a2), (4, .int a4), (6, .int a6)] [.int s0] := by
  unfold j_X7_best_76 at h
  refine s_istore_n (pc := 76) O (loc' := [(3, .int s0), (0, rf X.1 p0), (1, .int a1), (2, .int a2), (4, .int a4), (6, .int a6)]) dX7_best_76 rfl (by decide) rfl ?_
  refine s_iload (pc := 77) O dX7_best_77 5 rfl ?_
  refine s_iload_n (pc := 79) O dX7_best_79 rfl 3 rfl ?_
  refine s_icmp_le (pc := 80) O (tgt := 88) dX7_best_80 (by decide) (fun c => ?_) (fun c => ?_)
  · have h := ifp c h
    refine s_iload_n (pc := 88) O dX7_best_88 rfl 3 rfl ?_
    exact s_sub (pc := 89) O [1, 2, 0, 4] rfl (g_X7_best_89 O hi hn h hK)
  · have h := ifn c h
    refine s_iload (pc := 83) O dX7_best_83 5 rfl ?_
    refine s_goto (pc := 85) O (tgt := 89) dX7_best_85 (by decide) ?_
    exact s_sub (pc := 89) O [1, 2, 0, 4] rfl (g_X7_best_89 O hi hn h hK)
def j_X7_best_57 (M : MM) (p0 : Nat) (a1 : Int32) (a2 : Int32) (a3 : Int32) (a4 : Int32) (s0 : Int32) : Option ((Int32) ⊕ (Int32 × Int32 × Int32)) :=
  if s0 ≤ a2 then (j_X7_best_76 M p0 a1 a2 a4 s0 a3) else ((fR M p0 7 8).bind fun v1 => (aI M v1 a4).bind fun v2 => j_X7_best_76 M p0 a1 a2 a4 s0 v2)
set_option maxHeartbeats 4000000 in
set_option maxRecDepth 100000 in
theorem g_X7_best_57 {X : CT} {lim : Nat} {M : MM} {p0 : Nat} {a1 : Int32} {a2 : Int32} {a3 : Int32} {a4 : Int32} {s0 : Int32} (O : OKX X cX7_best RX7 4 lim 7) (hi : True) (hn : M.1 ≤ lim) {o : (Int32) ⊕ (Int32 × Int32 × Int32)} (h : j_X7_best_57 M p0 a1 a2 a3 a4 s0 = some o) (hK : (KI (fun (q : Int32) => RTX X (some .int) (some (.int q)) M) (fun (t : Int32 × Int32 × Int32) => WS X M 20 [(0, rf X.1 p0), (1, .int a1), (2, .int t.1), (3, .int t.2.1), (4, .int t.2.2)] [])) o) : WS X M 57 [(0, rf X.1 p0), (1, .int a1), (2, .int a2), (3, .int a3), (4, .int a4)] [.int s0] := by
  unfold j_X7_best_57 at h
  refine s_istore (pc := 57) O (loc' := [(6, .int s0), (0, rf X.1 p0), (1, .int a1), (2, .int a2), (3, .int a3), (4, .int a4)]) dX7_best_57 (by decide) rfl ?_
  refine s_iload (pc := 59) O dX7_best_59 0 rfl ?_
  refine s_iload_n (pc := 61) O dX7_best_61 rfl 3 rfl ?_
  refine s_icmp_le (pc := 62) O (tgt := 75) dX7_best_62 (by decide) (fun c => ?_) (fun c => ?_)
  · have h := ifp c h
    refine s_iload_n (pc := 75) O dX7_best_75 rfl 4 rfl ?_
    exact s_sub (pc := 76) O [1, 2, 3, 5, 0] rfl (g_X7_best_76 O hi hn h hK)
  · have h := ifn c h
    refine s_aload_n (pc := 65) O dX7_best_65 rfl 1 rfl ?_
    obtain ⟨v1, e, h⟩ := bd h
    refine s_getR (pc := 66) O kc7 (k := 8) rfl tw_679 e dX7_best_66 ?_
    refine s_iload (pc := 69) O dX7_best_69 5 rfl ?_
    obtain ⟨v2, e, h⟩ := bd h
    refine s_aldI (pc := 71) O e dX7_best_71 ?_
    refine s_goto (pc := 72) O (tgt := 76) dX7_best_72 (by decide) ?_
    exact s_sub (pc := 76) O [1, 2, 3, 5, 0] rfl (g_X7_best_76 O hi hn h hK)
def z_X7_best_20 (M : MM) (p0 : Nat) (a1 : Int32) (a2 : Int32) (a3 : Int32) (a4 : Int32) : Option ((Int32) ⊕ (Int32 × Int32 × Int32)) :=
  (fI M p0 7 12).bind fun v1 => if v1 ≤ a4 then ((if a1 = 0 then (some a3) else (some a2)).map .inl) else ((f_X7_bestOf M p0 a4 0).bind fun v2 => if v2 = (-9) then (j_X7_best_57 M p0 a1 a2 a3 a4 ((-9))) else ((fR M p0 7 11).bind fun v3 => (aI M v3 v2).bind fun v4 => j_X7_best_57 M p0 a1 a2 a3 a4 v4))
set_option maxHeartbeats 4000000 in
set_option maxRecDepth 100000 in
theorem b_X7_best_20 {X : CT} {lim : Nat} {M : MM} {p0 : Nat} {a1 : Int32} {a2 : Int32} {a3 : Int32} {a4 : Int32} (O : OKX X cX7_best RX7 4 lim 7) (hi : True) (hn : M.1 ≤ lim) {o : (Int32) ⊕ (Int32 × Int32 × Int32)} (h : z_X7_best_20 M p0 a1 a2 a3 a4 = some o) (hK : (KI (fun (q : Int32) => RTX X (some .int) (some (.int q)) M) (fun (t : Int32 × Int32 × Int32) => WS X M 20 [(0, rf X.1 p0), (1, .int a1), (2, .int t.1), (3, .int t.2.1), (4, .int t.2.2)] [])) o) : WS X M 20 [(0, rf X.1 p0), (1, .int a1), (2, .int a2), (3, .int a3), (4, .int a4)] [] := by
  unfold z_X7_best_20 at h
  refine s_iload (pc := 20) O dX7_best_20 4 rfl ?_
  refine s_aload_n (pc := 22) O dX7_best_22 rfl 0 rfl ?_
  obtain ⟨v1, e, h⟩ := bd h
  refine s_getI (pc := 23) O kc7 (k := 12) rfl tw_683 e dX7_best_23 ?_
  refine s_icmp_ge (pc := 26) O (tgt := 96) dX7_best_26 (by decide) (fun c => ?_) (fun c => ?_)
  · have h := ifp c h
    obtain ⟨q0, hq0, ho0⟩ := mpi h; subst ho0; replace h := hq0
    refine s_iload_n (pc := 96) O dX7_best_96 rfl 1 rfl ?_
    refine s_if_ne (pc := 97) O (tgt := 104) dX7_best_97 (by decide) (fun c => ?_) (fun c => ?_)
    · have h := ifn c h
      refine s_iload_n (pc := 104) O dX7_best_104 rfl 2 rfl ?_
      cases h
      exact s_iret (pc := 105) O hK dX7_best_105
    · have h := ifp c h
      refine s_iload_n (pc := 100) O dX7_best_100 rfl 3 rfl ?_
      refine s_goto (pc := 101) O (tgt := 105) dX7_best_101 (by decide) ?_
      cases h
      exact s_iret (pc := 105) O hK dX7_best_105
  · have h := ifn c h
    refine s_aload_n (pc := 29) O dX7_best_29 rfl 0 rfl ?_
    refine s_iload (pc := 30) O dX7_best_30 4 rfl ?_
    refine s_iconst (pc := 32) O (v := 0) dX7_best_32 (by decide) ?_
    obtain ⟨v2, e, h⟩ := bd h
    refine s_callVi (pc := 33) O (As := [.int a4, .int 0]) kc7 (c_X7_bestOf (G := X.1) e) cy_X7_bestOf tw_843 tw_845 tw_35 (by decide) rfl (Nat.le_refl _) hn (r_X7_bestOf e).1 (r_X7_bestOf e).2 rfl (Nat.le_of_ble_eq_true rfl) dX7_best_33 ?_
    refine s_istore (pc := 36) O (loc' := [(5, .int v2), (0, rf X.1 p0), (1, .int a1), (2, .int a2), (3, .int a3), (4, .int a4)]) dX7_best_36 (by decide) rfl ?_
    refine s_iload (pc := 38) O dX7_best_38 0 rfl ?_
    refine s_bipush (pc := 40) O (v := (-9)) dX7_best_40 (by decide) ?_
    refine s_icmp_ne (pc := 42) O (tgt := 50) dX7_best_42 (by decide) (fun c => ?_) (fun c => ?_)
    · have h := ifn c h
      refine s_aload_n (pc := 50) O dX7_best_50 rfl 1 rfl ?_
      obtain ⟨v3, e, h⟩ := bd h
      refine s_getR (pc := 51) O kc7 (k := 11) rfl tw_682 e dX7_best_51 ?_
      refine s_iload (pc := 54) O dX7_best_54 0 rfl ?_
      obtain ⟨v4, e, h⟩ := bd h
      refine s_aldI (pc := 56) O e dX7_best_56 ?_
      exact s_sub (pc := 57) O [1, 2, 3, 4, 5] rfl (g_X7_best_57 O hi hn h hK)
    · have h := ifp c h
      refine s_bipush (pc := 45) O (v := (-9)) dX7_best_45 (by decide) ?_
      refine s_goto (pc := 47) O (tgt := 57) dX7_best_47 (by decide) ?_
      exact s_sub (pc := 57) O [1, 2, 3, 4, 5] rfl (g_X7_best_57 O hi hn h hK)
set_option maxHeartbeats 4000000 in
set_option maxRecDepth 100000 in
theorem l_X7_best_20 {X : CT} {lim : Nat} {M : MM} {p0 : Nat} {a1 : Int32} {a2 : Int32} {a3 : Int32} {a4 : Int32} (O : OKX X cX7_best RX7 4 lim 7) (hi : True) (hn : M.1 ≤ lim) {o : Int32} {n : Nat} (h : lp (fun t => z_X7_best_20 M p0 a1 t.1 t.2.1 t.2.2) n (a2, a3, a4) = some o) (hK : (fun (q : Int32) => RTX X (some .int) (some (.int q)) M) o) : WS X M 20 [(0, rf X.1 p0), (1, .int a1), (2, .int a2), (3, .int a3), (4, .int a4)] [] := by
  refine lp_ind (P := fun (o : Int32) (t : Int32 × Int32 × Int32) => (fun (q : Int32) => RTX X (some .int) (some (.int q)) M) o → WS X M 20 [(0, rf X.1 p0), (1, .int a1), (2, .int t.1), (3, .int t.2.1), (4, .int t.2.2)] []) (fun t o hs  hK => ?_) n (a2, a3, a4) o h  hK
  rcases hs with h | ⟨u, h, hu⟩
  · exact b_X7_best_20 O hi hn h hK
  · exact b_X7_best_20 O hi hn h (show KI _ _ (.inr u) from hu hK)
def f_X7_best (M : MM) (p0 : Nat) (a1 : Int32) : Option (Int32) :=
  if p0 < M.1 ∧ kd p0 = 7 then ((f_X7_in M a1 0 1).bind fun v1 => if v1 = 0 then (some ((-1))) else (lp (fun t => z_X7_best_20 M p0 a1 t.1 t.2.1 t.2.2) FU ((-9), (-9), 0))) else none
theorem r_X7_best {M : MM} {p0 : Nat} {a1 : Int32} {o : Int32} (h : f_X7_best M p0 a1 = some o) : p0 < M.1 ∧ kd p0 = 7 := by
  unfold f_X7_best at h
  exact (gd h).1
theorem cy_X7_best : CallY yX7_best cX7_best 7 (some .int) 1 := ⟨by decide +kernel, tw_854, tw_47, by decide⟩
set_option maxHeartbeats 4000000 in
set_option maxRecDepth 100000 in
theorem c_X7_best {G : GG} {M : MM} {p0 : Nat} {a1 : Int32} {r : Int32} (h : f_X7_best M p0 a1 = some r) : Ct G yX7_best cX7_best 7 (some .int) 4 [rf G p0, .int a1] M (some (.int r)) M := by
  refine ct_of (by decide +kernel) (Nat.le_of_ble_eq_true rfl) (fun X hX O hK hi0 => ?_)
  subst hX
  obtain ⟨lim, hlim⟩ : ∃ z, z = M.1 := ⟨_, rfl⟩
  rw [← hlim] at O
  replace O : OKX X cX7_best RX7 4 lim 7 := O
  have hi : True := trivial
  have hn : M.1 ≤ lim := Nat.le_of_eq hlim.symm
  show WS X M 0 [(0, rf X.1 p0), (1, .int a1)] []
  unfold f_X7_best at h
  obtain ⟨hg0, h⟩ := gd h
  refine s_iload_n (pc := 0) O dX7_best_0 rfl 1 rfl ?_
  refine s_iconst (pc := 1) O (v := 0) dX7_best_1 (by decide) ?_
  refine s_iconst (pc := 2) O (v := 1) dX7_best_2 (by decide) ?_
  obtain ⟨v1, e, h⟩ := bd h
  refine s_callSi (pc := 3) O (As := [.int a1, .int 0, .int 1]) (c_X7_in (G := X.1) e) cy_X7_in tw_660 tw_661 (by decide) rfl (Nat.le_refl _) hn rfl (Nat.le_of_ble_eq_true rfl) dX7_best_3 ?_
  refine s_if_ne (pc := 6) O (tgt := 11) dX7_best_6 (by decide) (fun c => ?_) (fun c => ?_)
  · have h := ifn c h
    refine s_bipush (pc := 11) O (v := (-9)) dX7_best_11 (by decide) ?_
    refine s_istore_n (pc := 13) O (loc' := [(2, .int (-9)), (0, rf X.1 p0), (1, .int a1)]) dX7_best_13 rfl (by decide) rfl ?_
    refine s_bipush (pc := 14) O (v := (-9)) dX7_best_14 (by decide) ?_
    refine s_istore_n (pc := 16) O (loc' := [(3, .int (-9)), (2, .int (-9)), (0, rf X.1 p0), (1, .int a1)]) dX7_best_16 rfl (by decide) rfl ?_
    refine s_iconst (pc := 17) O (v := 0) dX7_best_17 (by decide) ?_
    refine s_istore (pc := 18) O (loc' := [(4, .int 0), (3, .int (-9)), (2, .int (-9)), (0, rf X.1 p0), (1, .int a1)]) dX7_best_18 (by decide) rfl ?_
    exact s_sub (pc := 20) O [3, 4, 2, 1, 0] rfl (l_X7_best_20 O hi hn h hK)
  · have h := ifp c h
    refine s_iconst (pc := 9) O (v := (-1)) dX7_best_9 (by decide) ?_
    cases h
    exact s_iret (pc := 10) O hK dX7_best_10

def z_X7_lays_9 (M : MM) (p0 : Nat) (a2 : Int32) : Option ((Int32 × MM) ⊕ (Int32 × MM)) :=
  if (100 : Int32) ≤ a2 then (some ((.inl (a2, M)))) else ((fR M p0 7 17).bind fun v1 => (aI M v1 ((a2 - 1))).bind fun v2 => (f_X7_bestOf M p0 v2 0).bind fun v3 => if v3 = (-9) then (some ((.inl (a2, M)))) else ((fR M p0 7 17).bind fun v4 => (fR M p0 7 17).bind fun v5 => (aI M v5 ((a2 - 1))).bind fun v6 => (f_X7_bestOf M p0 v6 0).bind fun v7 => (waI M v4 a2 v7).bind fun M8 => some ((.inr ((a2 + 1), M8)))))
set_option maxHeartbeats 4000000 in
set_option maxRecDepth 100000 in
theorem b_X7_lays_9 {X : CT} {lim : Nat} {M : MM} {p0 : Nat} {a2 : Int32} (O : OKX X cX7_lays RX7 4 lim 3) (hi : True) (hn : M.1 ≤ lim) {o : (Int32 × MM) ⊕ (Int32 × MM)} (h : z_X7_lays_9 M p0 a2 = some o) (hK : (KI (fun (q : Int32 × MM) => RTX X (some .int) (some (.int q.1)) q.2) (fun (t : Int32 × MM) => t.2.1 ≤ lim → WS X t.2 9 [(0, rf X.1 p0), (2, .int t.1)] [])) o) : WS X M 9 [(0, rf X.1 p0), (2, .int a2)] [] := by
  unfold z_X7_lays_9 at h
  refine s_iload_n (pc := 9) O dX7_lays_9 rfl 1 rfl ?_
  refine s_bipush (pc := 10) O (v := 100) dX7_lays_10 (by decide) ?_
  refine s_icmp_ge (pc := 12) O (tgt := 58) dX7_lays_12 (by decide) (fun c => ?_) (fun c => ?_)
  · have h := ifp c h
    refine s_iload_n (pc := 58) O dX7_lays_58 rfl 1 rfl ?_
    cases h
    exact s_iret (pc := 59) O hK dX7_lays_59
  · have h := ifn c h
    refine s_aload_n (pc := 15) O dX7_lays_15 rfl 0 rfl ?_
    refine s_aload_n (pc := 16) O dX7_lays_16 rfl 0 rfl ?_
    obtain ⟨v1, e, h⟩ := bd h
    refine s_getR (pc := 17) O kc7 (k := 17) rfl tw_688 e dX7_lays_17 ?_
    refine s_iload_n (pc := 20) O dX7_lays_20 rfl 1 rfl ?_
    refine s_iconst (pc := 21) O (v := 1) dX7_lays_21 (by decide) ?_
    refine s_isub (pc := 22) O dX7_lays_22 ?_
    obtain ⟨v2, e, h⟩ := bd h
    refine s_aldI (pc := 23) O e dX7_lays_23 ?_
    refine s_iconst (pc := 24) O (v := 0) dX7_lays_24 (by decide) ?_
    obtain ⟨v3, e, h⟩ := bd h
    refine s_callVi (pc := 25) O (As := [.int v2, .int 0]) kc7 (c_X7_bestOf (G := X.1) e) cy_X7_bestOf tw_843 tw_845 tw_35 (by decide) rfl (Nat.le_refl _) hn (r_X7_bestOf e).1 (r_X7_bestOf e).2 rfl (Nat.le_of_ble_eq_true rfl) dX7_lays_25 ?_
    refine s_bipush (pc := 28) O (v := (-9)) dX7_lays_28 (by decide) ?_
    refine s_icmp_eq (pc := 30) O (tgt := 58) dX7_lays_30 (by decide) (fun c => ?_) (fun c => ?_)
    · have h := ifp c h
      refine s_iload_n (pc := 58) O dX7_lays_58 rfl 1 rfl ?_
      cases h
      exact s_iret (pc := 59) O hK dX7_lays_59
    · have h := ifn c h
      refine s_aload_n (pc := 33) O dX7_lays_33 rfl 0 rfl ?_
      obtain ⟨v4, e, h⟩ := bd h
      refine s_getR (pc := 34) O kc7 (k := 17) rfl tw_688 e dX7_lays_34 ?_
      refine s_iload_n (pc := 37) O dX7_lays_37 rfl 1 rfl ?_
      refine s_aload_n (pc := 38) O dX7_lays_38 rfl 0 rfl ?_
      refine s_aload_n (pc := 39) O dX7_lays_39 rfl 0 rfl ?_
      obtain ⟨v5, e, h⟩ := bd h
      refine s_getR (pc := 40) O kc7 (k := 17) rfl tw_688 e dX7_lays_40 ?_
      refine s_iload_n (pc := 43) O dX7_lays_43 rfl 1 rfl ?_
      refine s_iconst (pc := 44) O (v := 1) dX7_lays_44 (by decide) ?_
      refine s_isub (pc := 45) O dX7_lays_45 ?_
      obtain ⟨v6, e, h⟩ := bd h
      refine s_aldI (pc := 46) O e dX7_lays_46 ?_
      refine s_iconst (pc := 47) O (v := 0) dX7_lays_47 (by decide) ?_
      obtain ⟨v7, e, h⟩ := bd h
      refine s_callVi (pc := 48) O (As := [.int v6, .int 0]) kc7 (c_X7_bestOf (G := X.1) e) cy_X7_bestOf tw_843 tw_845 tw_35 (by decide) rfl (Nat.le_refl _) hn (r_X7_bestOf e).1 (r_X7_bestOf e).2 rfl (Nat.le_of_ble_eq_true rfl) dX7_lays_48 ?_
      obtain ⟨M8, e, h⟩ := bd h
      refine s_astI (pc := 51) O e dX7_lays_51 ?_
      have hn : M8.1 ≤ lim := by rw [waI_n e]; exact hn
      refine s_iinc (pc := 52) O (v := (a2 + 1)) (loc' := [(2, .int (a2 + 1)), (0, rf X.1 p0)]) dX7_lays_52 1 rfl rfl (by decide) rfl ?_
      refine s_goto (pc := 55) O (tgt := 9) dX7_lays_55 (by decide) ?_
      cases h
      exact s_sub (pc := 9) O [1, 0] rfl (hK hn)
set_option maxHeartbeats 4000000 in
set_option maxRecDepth 100000 in
theorem l_X7_lays_9 {X : CT} {lim : Nat} {M : MM} {p0 : Nat} {a2 : Int32} (O : OKX X cX7_lays RX7 4 lim 3) (hi : True) (hn : M.1 ≤ lim) {o : Int32 × MM} {n : Nat} (h : lp (fun t => z_X7_lays_9 t.2 p0 t.1) n (a2, M) = some o) (hK : (fun (q : Int32 × MM) => RTX X (some .int) (some (.int q.1)) q.2) o) : WS X M 9 [(0, rf X.1 p0), (2, .int a2)] [] := by
  refine lp_ind (P := fun (o : Int32 × MM) (t : Int32 × MM) => t.2.1 ≤ lim → (fun (q : Int32 × MM) => RTX X (some .int) (some (.int q.1)) q.2) o → WS X t.2 9 [(0, rf X.1 p0), (2, .int t.1)] []) (fun t o hs hn hK => ?_) n (a2, M) o h hn hK
  rcases hs with h | ⟨u, h, hu⟩
  · exact b_X7_lays_9 O hi hn h hK
  · exact b_X7_lays_9 O hi hn h (show KI _ _ (.inr u) from fun hn => hu hn hK)
def f_X7_lays (M : MM) (p0 : Nat) (a1 : Int32) : Option (Int32 × MM) :=
  if p0 < M.1 ∧ kd p0 = 7 then ((fR M p0 7 17).bind fun v1 => (waI M v1 0 a1).bind fun M2 => lp (fun t => z_X7_lays_9 t.2 p0 t.1) FU (1, M2)) else none
theorem r_X7_lays {M : MM} {p0 : Nat} {a1 : Int32} {o : Int32 × MM} (h : f_X7_lays M p0 a1 = some o) : p0 < M.1 ∧ kd p0 = 7 := by
  unfold f_X7_lays at h
  exact (gd h).1
theorem cy_X7_lays : CallY yX7_lays cX7_lays 3 (some .int) 1 := ⟨by decide +kernel, tw_866, tw_47, by decide⟩
set_option maxHeartbeats 4000000 in
set_option maxRecDepth 100000 in
theorem c_X7_lays {G : GG} {M : MM} {p0 : Nat} {a1 : Int32} {r : Int32} {M' : MM} (h : f_X7_lays M p0 a1 = some (r, M')) (hn : M.1 ≤ M'.1) : Ct G yX7_lays cX7_lays 3 (some .int) 4 [rf G p0, .int a1] M (some (.int r)) M' := by
  refine ct_of (by decide +kernel) (Nat.le_of_ble_eq_true rfl) (fun X hX O hK hi0 => ?_)
  subst hX
  obtain ⟨lim, hlim⟩ : ∃ z, z = M'.1 := ⟨_, rfl⟩
  rw [← hlim] at O hn
  replace O : OKX X cX7_lays RX7 4 lim 3 := O
  have hi : True := trivial
  show WS X M 0 [(0, rf X.1 p0), (1, .int a1)] []
  replace hK : (fun (q : Int32 × MM) => RTX X (some .int) (some (.int q.1)) q.2) (r, M') := hK
  generalize (r, M') = o at h hK
  unfold f_X7_lays at h
  obtain ⟨hg0, h⟩ := gd h
  refine s_aload_n (pc := 0) O dX7_lays_0 rfl 0 rfl ?_
  obtain ⟨v1, e, h⟩ := bd h
  refine s_getR (pc := 1) O kc7 (k := 17) rfl tw_688 e dX7_lays_1 ?_
  refine s_iconst (pc := 4) O (v := 0) dX7_lays_4 (by decide) ?_
  refine s_iload_n (pc := 5) O dX7_lays_5 rfl 1 rfl ?_
  obtain ⟨M2, e, h⟩ := bd h
  refine s_astI (pc := 6) O e dX7_lays_6 ?_
  have hn : M2.1 ≤ lim := by rw [waI_n e]; exact hn
  refine s_iconst (pc := 7) O (v := 1) dX7_lays_7 (by decide) ?_
  refine s_istore_n (pc := 8) O (loc' := [(2, .int 1), (0, rf X.1 p0), (1, .int a1)]) dX7_lays_8 rfl (by decide) rfl ?_
  exact s_sub (pc := 9) O [1, 0] rfl (l_X7_lays_9 O hi hn h hK)

def j_X7_lists_97 (M : MM) (p0 : Nat) (a1 : Int32) : Option ((MM) ⊕ (Int32 × MM)) :=
  some ((.inr ((a1 + 1), M)))
set_option maxHeartbeats 4000000 in
set_option maxRecDepth 100000 in
theorem g_X7_lists_97 {X : CT} {lim : Nat} {M : MM} {p0 : Nat} {a1 : Int32} (O : OKX X cX7_lists RX7 4 lim 3) (hi : True) (hn : M.1 ≤ lim) {o : (MM) ⊕ (Int32 × MM)} (h : j_X7_lists_97 M p0 a1 = some o) (hK : (KI (fun (q : MM) => RTX X none none q) (fun (t : Int32 × MM) => t.2.1 ≤ lim → WS X t.2 7 [(0, rf X.1 p0), (1, .int t.1)] [])) o) : WS X M 97 [(0, rf X.1 p0), (1, .int a1)] [] := by
  unfold j_X7_lists_97 at h
  refine s_iinc (pc := 97) O (v := (a1 + 1)) (loc' := [(1, .int (a1 + 1)), (0, rf X.1 p0)]) dX7_lists_97 1 rfl rfl (by decide) rfl ?_
  refine s_goto (pc := 100) O (tgt := 7) dX7_lists_100 (by decide) ?_
  cases h
  exact s_sub (pc := 7) O [1, 0] rfl (hK hn)
def z_X7_lists_64 (M : MM) (p0 : Nat) (a1 : Int32) (a2 : Int32) : Option (((MM) ⊕ (Int32 × MM)) ⊕ (Int32 × MM)) :=
  (f_X7_length M a1).bind fun v1 => if v1 ≤ a2 then (((fI M p0 7 12).bind fun v2 => (wfI M p0 7 12 ((v2 + 1))).bind fun M3 => j_X7_lists_97 M3 p0 a1).map .inl) else ((f_X7_wordOf M a1 a2).bind fun v4 => (f_X7_adds M p0 v4).bind fun M5 => if M5.1 = M.1 then (some ((.inr ((a2 + 1), M5)))) else none)
set_option maxHeartbeats 4000000 in
set_option maxRecDepth 100000 in
theorem b_X7_lists_64 {X : CT} {lim : Nat} {M : MM} {p0 : Nat} {a1 : Int32} {a2 : Int32} (O : OKX X cX7_lists RX7 4 lim 3) (hi : True) (hn : M.1 ≤ lim) {o : ((MM) ⊕ (Int32 × MM)) ⊕ (Int32 × MM)} (h : z_X7_lists_64 M p0 a1 a2 = some o) (hK : (KI (KI (fun (q : MM) => RTX X none none q) (fun (t : Int32 × MM) => t.2.1 ≤ lim → WS X t.2 7 [(0, rf X.1 p0), (1, .int t.1)] [])) (fun (t : Int32 × MM) => t.2.1 ≤ lim → WS X t.2 64 [(0, rf X.1 p0), (1, .int a1), (2, .int t.1)] [])) o) : WS X M 64 [(0, rf X.1 p0), (1, .int a1), (2, .int a2)] [] := by
  unfold z_X7_lists_64 at h
  refine s_iload_n (pc := 64) O dX7_lists_64 rfl 2 rfl ?_
  refine s_iload_n (pc := 65) O dX7_lists_65 rfl 1 rfl ?_
  obtain ⟨v1, e, h⟩ := bd h
  refine s_callSi (pc := 66) O (As := [.int a1]) (c_X7_length (G := X.1) e) cy_X7_length tw_650 tw_651 (by decide) rfl (Nat.le_refl _) hn rfl (Nat.le_of_ble_eq_true rfl) dX7_lists_66 ?_
  refine s_icmp_ge (pc := 69) O (tgt := 87) dX7_lists_69 (by decide) (fun c => ?_) (fun c => ?_)
  · have h := ifp c h
    obtain ⟨q0, hq0, ho0⟩ := mpi h; subst ho0; replace h := hq0
    refine s_aload_n (pc := 87) O dX7_lists_87 rfl 0 rfl ?_
    refine s_dup (pc := 88) O dX7_lists_88 rfl ?_
    obtain ⟨v2, e, h⟩ := bd h
    refine s_getI (pc := 89) O kc7 (k := 12) rfl tw_683 e dX7_lists_89 ?_
    refine s_iconst (pc := 92) O (v := 1) dX7_lists_92 (by decide) ?_
    refine s_iadd (pc := 93) O dX7_lists_93 ?_
    obtain ⟨M3, e, h⟩ := bd h
    refine s_putI (pc := 94) O kc7 (k := 12) rfl rfl rfl tw_683 e dX7_lists_94 ?_
    have hn : M3.1 ≤ lim := by rw [wfI_n e]; exact hn
    exact s_sub (pc := 97) O [0, 1] rfl (g_X7_lists_97 O hi hn h hK)
  · have h := ifn c h
    refine s_aload_n (pc := 72) O dX7_lists_72 rfl 0 rfl ?_
    refine s_iload_n (pc := 73) O dX7_lists_73 rfl 1 rfl ?_
    refine s_iload_n (pc := 74) O dX7_lists_74 rfl 2 rfl ?_
    obtain ⟨v4, e, h⟩ := bd h
    refine s_callSi (pc := 75) O (As := [.int a1, .int a2]) (c_X7_wordOf (G := X.1) e) cy_X7_wordOf tw_653 tw_654 (by decide) rfl (Nat.le_refl _) hn rfl (Nat.le_of_ble_eq_true rfl) dX7_lists_75 ?_
    obtain ⟨M5, e, h⟩ := bd h
    obtain ⟨hg, h⟩ := gd h
    refine s_callVv (pc := 78) O (As := [.int v4]) kc7 (c_X7_adds (G := X.1) e (Nat.le_of_eq hg.symm)) cy_X7_adds tw_667 tw_669 tw_22 (by decide) rfl (Nat.le_of_eq hg.symm) (by rw [hg]; exact hn) (r_X7_adds e).1 (r_X7_adds e).2 rfl (Nat.le_of_ble_eq_true rfl) dX7_lists_78 ?_
    have hn : M5.1 ≤ lim := by rw [hg]; exact hn
    refine s_iinc (pc := 81) O (v := (a2 + 1)) (loc' := [(2, .int (a2 + 1)), (0, rf X.1 p0), (1, .int a1)]) dX7_lists_81 2 rfl rfl (by decide) rfl ?_
    refine s_goto (pc := 84) O (tgt := 64) dX7_lists_84 (by decide) ?_
    cases h
    exact s_sub (pc := 64) O [1, 2, 0] rfl (hK hn)
set_option maxHeartbeats 4000000 in
set_option maxRecDepth 100000 in
theorem l_X7_lists_64 {X : CT} {lim : Nat} {M : MM} {p0 : Nat} {a1 : Int32} {a2 : Int32} (O : OKX X cX7_lists RX7 4 lim 3) (hi : True) (hn : M.1 ≤ lim) {o : (MM) ⊕ (Int32 × MM)} {n : Nat} (h : lp (fun t => z_X7_lists_64 t.2 p0 a1 t.1) n (a2, M) = some o) (hK : (KI (fun (q : MM) => RTX X none none q) (fun (t : Int32 × MM) => t.2.1 ≤ lim → WS X t.2 7 [(0, rf X.1 p0), (1, .int t.1)] [])) o) : WS X M 64 [(0, rf X.1 p0), (1, .int a1), (2, .int a2)] [] := by
  refine lp_ind (P := fun (o : (MM) ⊕ (Int32 × MM)) (t : Int32 × MM) => t.2.1 ≤ lim → (KI (fun (q : MM) => RTX X none none q) (fun (t : Int32 × MM) => t.2.1 ≤ lim → WS X t.2 7 [(0, rf X.1 p0), (1, .int t.1)] [])) o → WS X t.2 64 [(0, rf X.1 p0), (1, .int a1), (2, .int t.1)] []) (fun t o hs hn hK => ?_) n (a2, M) o h hn hK
  rcases hs with h | ⟨u, h, hu⟩
  · exact b_X7_lists_64 O hi hn h hK
  · exact b_X7_lists_64 O hi hn h (show KI _ _ (.inr u) from fun hn => hu hn hK)
def z_X7_lists_7 (M : MM) (p0 : Nat) (a1 : Int32) : Option ((MM) ⊕ (Int32 × MM)) :=
  if (1000 : Int32) ≤ a1 then (some ((.inl M))) else ((f_X7_isSaid M p0 a1).bind fun v1 => if v1 = 0 then (j_X7_lists_97 M p0 a1) else ((fR M p0 7 8).bind fun v2 => (fI M p0 7 12).bind fun v3 => (waI M v2 v3 a1).bind fun M4 => (fR M4 p0 7 9).bind fun v5 => (fI M4 p0 7 12).bind fun v6 => (waI M4 v5 v6 0).bind fun M7 => (fR M7 p0 7 10).bind fun v8 => (fI M7 p0 7 12).bind fun v9 => (waI M7 v8 v9 0).bind fun M10 => (fR M10 p0 7 11).bind fun v11 => (fI M10 p0 7 12).bind fun v12 => (waI M10 v11 v12 0).bind fun M13 => lp (fun t => z_X7_lists_64 t.2 p0 a1 t.1) FU (0, M13)))
set_option maxHeartbeats 4000000 in
set_option maxRecDepth 100000 in
theorem b_X7_lists_7 {X : CT} {lim : Nat} {M : MM} {p0 : Nat} {a1 : Int32} (O : OKX X cX7_lists RX7 4 lim 3) (hi : True) (hn : M.1 ≤ lim) {o : (MM) ⊕ (Int32 × MM)} (h : z_X7_lists_7 M p0 a1 = some o) (hK : (KI (fun (q : MM) => RTX X none none q) (fun (t : Int32 × MM) => t.2.1 ≤ lim → WS X t.2 7 [(0, rf X.1 p0), (1, .int t.1)] [])) o) : WS X M 7 [(0, rf X.1 p0), (1, .int a1)] [] := by
  unfold z_X7_lists_7 at h
  refine s_iload_n (pc := 7) O dX7_lists_7 rfl 1 rfl ?_
  refine s_sipush (pc := 8) O (v := 1000) dX7_lists_8 (by decide) ?_
  refine s_icmp_ge (pc := 11) O (tgt := 103) dX7_lists_11 (by decide) (fun c => ?_) (fun c => ?_)
  · have h := ifp c h
    cases h
    exact s_vret (pc := 103) O hK dX7_lists_103
  · have h := ifn c h
    refine s_aload_n (pc := 14) O dX7_lists_14 rfl 0 rfl ?_
    refine s_iload_n (pc := 15) O dX7_lists_15 rfl 1 rfl ?_
    obtain ⟨v1, e, h⟩ := bd h
    refine s_callVi (pc := 16) O (As := [.int a1]) kc7 (c_X7_isSaid (G := X.1) e) cy_X7_isSaid tw_646 tw_648 tw_19 (by decide) rfl (Nat.le_refl _) hn (r_X7_isSaid e).1 (r_X7_isSaid e).2 rfl (Nat.le_of_ble_eq_true rfl) dX7_lists_16 ?_
    refine s_if_eq (pc := 19) O (tgt := 97) dX7_lists_19 (by decide) (fun c => ?_) (fun c => ?_)
    · have h := ifp c h
      exact s_sub (pc := 97) O [0, 1] rfl (g_X7_lists_97 O hi hn h hK)
    · have h := ifn c h
      refine s_aload_n (pc := 22) O dX7_lists_22 rfl 0 rfl ?_
      obtain ⟨v2, e, h⟩ := bd h
      refine s_getR (pc := 23) O kc7 (k := 8) rfl tw_679 e dX7_lists_23 ?_
      refine s_aload_n (pc := 26) O dX7_lists_26 rfl 0 rfl ?_
      obtain ⟨v3, e, h⟩ := bd h
      refine s_getI (pc := 27) O kc7 (k := 12) rfl tw_683 e dX7_lists_27 ?_
      refine s_iload_n (pc := 30) O dX7_lists_30 rfl 1 rfl ?_
      obtain ⟨M4, e, h⟩ := bd h
      refine s_astI (pc := 31) O e dX7_lists_31 ?_
      have hn : M4.1 ≤ lim := by rw [waI_n e]; exact hn
      refine s_aload_n (pc := 32) O dX7_lists_32 rfl 0 rfl ?_
      obtain ⟨v5, e, h⟩ := bd h
      refine s_getR (pc := 33) O kc7 (k := 9) rfl tw_680 e dX7_lists_33 ?_
      refine s_aload_n (pc := 36) O dX7_lists_36 rfl 0 rfl ?_
      obtain ⟨v6, e, h⟩ := bd h
      refine s_getI (pc := 37) O kc7 (k := 12) rfl tw_683 e dX7_lists_37 ?_
      refine s_iconst (pc := 40) O (v := 0) dX7_lists_40 (by decide) ?_
      obtain ⟨M7, e, h⟩ := bd h
      refine s_astI (pc := 41) O e dX7_lists_41 ?_
      have hn : M7.1 ≤ lim := by rw [waI_n e]; exact hn
      refine s_aload_n (pc := 42) O dX7_lists_42 rfl 0 rfl ?_
      obtain ⟨v8, e, h⟩ := bd h
      refine s_getR (pc := 43) O kc7 (k := 10) rfl tw_681 e dX7_lists_43 ?_
      refine s_aload_n (pc := 46) O dX7_lists_46 rfl 0 rfl ?_
      obtain ⟨v9, e, h⟩ := bd h
      refine s_getI (pc := 47) O kc7 (k := 12) rfl tw_683 e dX7_lists_47 ?_
      refine s_iconst (pc := 50) O (v := 0) dX7_lists_50 (by decide) ?_
      obtain ⟨M10, e, h⟩ := bd h
      refine s_astI (pc := 51) O e dX7_lists_51 ?_
      have hn : M10.1 ≤ lim := by rw [waI_n e]; exact hn
      refine s_aload_n (pc := 52) O dX7_lists_52 rfl 0 rfl ?_
      obtain ⟨v11, e, h⟩ := bd h
      refine s_getR (pc := 53) O kc7 (k := 11) rfl tw_682 e dX7_lists_53 ?_
      refine s_aload_n (pc := 56) O dX7_lists_56 rfl 0 rfl ?_
      obtain ⟨v12, e, h⟩ := bd h
      refine s_getI (pc := 57) O kc7 (k := 12) rfl tw_683 e dX7_lists_57 ?_
      refine s_iconst (pc := 60) O (v := 0) dX7_lists_60 (by decide) ?_
      obtain ⟨M13, e, h⟩ := bd h
      refine s_astI (pc := 61) O e dX7_lists_61 ?_
      have hn : M13.1 ≤ lim := by rw [waI_n e]; exact hn
      refine s_iconst (pc := 62) O (v := 0) dX7_lists_62 (by decide) ?_
      refine s_istore_n (pc := 63) O (loc' := [(2, .int 0), (0, rf X.1 p0), (1, .int a1)]) dX7_lists_63 rfl (by decide) rfl ?_
      exact s_sub (pc := 64) O [1, 2, 0] rfl (l_X7_lists_64 O hi hn h hK)
set_option maxHeartbeats 4000000 in
set_option maxRecDepth 100000 in
theorem l_X7_lists_7 {X : CT} {lim : Nat} {M : MM} {p0 : Nat} {a1 : Int32} (O : OKX X cX7_lists RX7 4 lim 3) (hi : True) (hn : M.1 ≤ lim) {o : MM} {n : Nat} (h : lp (fun t => z_X7_lists_7 t.2 p0 t.1) n (a1, M) = some o) (hK : (fun (q : MM) => RTX X none none q) o) : WS X M 7 [(0, rf X.1 p0), (1, .int a1)] [] := by
  refine lp_ind (P := fun (o : MM) (t : Int32 × MM) => t.2.1 ≤ lim → (fun (q : MM) => RTX X none none q) o → WS X t.2 7 [(0, rf X.1 p0), (1, .int t.1)] []) (fun t o hs hn hK => ?_) n (a1, M) o h hn hK
  rcases hs with h | ⟨u, h, hu⟩
  · exact b_X7_lists_7 O hi hn h hK
  · exact b_X7_lists_7 O hi hn h (show KI _ _ (.inr u) from fun hn => hu hn hK)
def f_X7_lists (M : MM) (p0 : Nat) : Option (MM) :=
  if p0 < M.1 ∧ kd p0 = 7 then ((wfI M p0 7 12 0).bind fun M1 => lp (fun t => z_X7_lists_7 t.2 p0 t.1) FU (1, M1)) else none
theorem r_X7_lists {M : MM} {p0 : Nat} {o : MM} (h : f_X7_lists M p0 = some o) : p0 < M.1 ∧ kd p0 = 7 := by
  unfold f_X7_lists at h
  exact (gd h).1
theorem cy_X7_lists : CallY yX7_lists cX7_lists 3 (none) 0 := ⟨by decide +kernel, tw_645, tw_47, by decide⟩
set_option maxHeartbeats 4000000 in
set_option maxRecDepth 100000 in
theorem c_X7_lists {G : GG} {M : MM} {p0 : Nat} {M' : MM} (h : f_X7_lists M p0 = some M') (hn : M.1 ≤ M'.1) : Ct G yX7_lists cX7_lists 3 (none) 4 [rf G p0] M (none) M' := by
  refine ct_of (by decide +kernel) (Nat.le_of_ble_eq_true rfl) (fun X hX O hK hi0 => ?_)
  subst hX
  obtain ⟨lim, hlim⟩ : ∃ z, z = M'.1 := ⟨_, rfl⟩
  rw [← hlim] at O hn
  replace O : OKX X cX7_lists RX7 4 lim 3 := O
  have hi : True := trivial
  show WS X M 0 [(0, rf X.1 p0)] []
  unfold f_X7_lists at h
  obtain ⟨hg0, h⟩ := gd h
  refine s_aload_n (pc := 0) O dX7_lists_0 rfl 0 rfl ?_
  refine s_iconst (pc := 1) O (v := 0) dX7_lists_1 (by decide) ?_
  obtain ⟨M1, e, h⟩ := bd h
  refine s_putI (pc := 2) O kc7 (k := 12) rfl rfl rfl tw_683 e dX7_lists_2 ?_
  have hn : M1.1 ≤ lim := by rw [wfI_n e]; exact hn
  refine s_iconst (pc := 5) O (v := 1) dX7_lists_5 (by decide) ?_
  refine s_istore_n (pc := 6) O (loc' := [(1, .int 1), (0, rf X.1 p0)]) dX7_lists_6 rfl (by decide) rfl ?_
  exact s_sub (pc := 7) O [1, 0] rfl (l_X7_lists_7 O hi hn h hK)

def j_X7_mute_79 (M : MM) (p0 : Nat) (a1 : Int32) (a3 : Int32) (a4 : Int32) (s0 : Int32) (s1 : Int32) : Option ((Int32) ⊕ (Int32 × Int32 × Int32)) :=
  some ((.inr ((s1 + s0), a3, (a4 + 1))))
set_option maxHeartbeats 4000000 in
set_option maxRecDepth 100000 in
theorem g_X7_mute_79 {X : CT} {lim : Nat} {M : MM} {p0 : Nat} {a1 : Int32} {a3 : Int32} {a4 : Int32} {s0 : Int32} {s1 : Int32} (O : OKX X cX7_mute RX7 4 lim 6) (hi : True) (hn : M.1 ≤ lim) {o : (Int32) ⊕ (Int32 × Int32 × Int32)} (h : j_X7_mute_79 M p0 a1 a3 a4 s0 s1 = some o) (hK : (KI (fun (q : Int32) => RTX X (some .int) (some (.int q)) M) (fun (t : Int32 × Int32 × Int32) => WS X M 19 [(0, rf X.1 p0), (1, .int a1), (2, .int t.1), (3, .int t.2.1), (4, .int t.2.2)] [])) o) : WS X M 79 [(0, rf X.1 p0), (1, .int a1), (3, .int a3), (4, .int a4)] [.int s0, .int s1] := by
  unfold j_X7_mute_79 at h
  refine s_iadd (pc := 79) O dX7_mute_79 ?_
  refine s_istore_n (pc := 80) O (loc' := [(2, .int (s1 + s0)), (0, rf X.1 p0), (1, .int a1), (3, .int a3), (4, .int a4)]) dX7_mute_80 rfl (by decide) rfl ?_
  refine s_iinc (pc := 81) O (v := (a4 + 1)) (loc' := [(4, .int (a4 + 1)), (2, .int (s1 + s0)), (0, rf X.1 p0), (1, .int a1), (3, .int a3)]) dX7_mute_81 4 rfl rfl (by decide) rfl ?_
  refine s_goto (pc := 84) O (tgt := 19) dX7_mute_84 (by decide) ?_
  cases h
  exact s_sub (pc := 19) O [2, 3, 1, 4, 0] rfl hK
def j_X7_mute_67 (M : MM) (p0 : Nat) (a1 : Int32) (a2 : Int32) (a4 : Int32) (a5 : Int32) (s0 : Int32) : Option ((Int32) ⊕ (Int32 × Int32 × Int32)) :=
  if a5 = 0 then (j_X7_mute_79 M p0 a1 s0 a4 0 a2) else (j_X7_mute_79 M p0 a1 s0 a4 1 a2)
set_option maxHeartbeats 4000000 in
set_option maxRecDepth 100000 in
theorem g_X7_mute_67 {X : CT} {lim : Nat} {M : MM} {p0 : Nat} {a1 : Int32} {a2 : Int32} {a4 : Int32} {a5 : Int32} {s0 : Int32} (O : OKX X cX7_mute RX7 4 lim 6) (hi : True) (hn : M.1 ≤ lim) {o : (Int32) ⊕ (Int32 × Int32 × Int32)} (h : j_X7_mute_67 M p0 a1 a2 a4 a5 s0 = some o) (hK : (KI (fun (q : Int32) => RTX X (some .int) (some (.int q)) M) (fun (t : Int32 × Int32 × Int32) => WS X M 19 [(0, rf X.1 p0), (1, .int a1), (2, .int t.1), (3, .int t.2.1), (4, .int t.2.2)] [])) o) : WS X M 67 [(0, rf X.1 p0), (1, .int a1), (2, .int a2), (4, .int a4), (5, .int a5)] [.int s0] := by
  unfold j_X7_mute_67 at h
  refine s_istore_n (pc := 67) O (loc' := [(3, .int s0), (0, rf X.1 p0), (1, .int a1), (2, .int a2), (4, .int a4), (5, .int a5)]) dX7_mute_67 rfl (by decide) rfl ?_
  refine s_iload_n (pc := 68) O dX7_mute_68 rfl 3 rfl ?_
  refine s_iload (pc := 69) O dX7_mute_69 5 rfl ?_
  refine s_if_eq (pc := 71) O (tgt := 78) dX7_mute_71 (by decide) (fun c => ?_) (fun c => ?_)
  · have h := ifp c h
    refine s_iconst (pc := 78) O (v := 0) dX7_mute_78 (by decide) ?_
    exact s_sub (pc := 79) O [1, 2, 0, 4] rfl (g_X7_mute_79 O hi hn h hK)
  · have h := ifn c h
    refine s_iconst (pc := 74) O (v := 1) dX7_mute_74 (by decide) ?_
    refine s_goto (pc := 75) O (tgt := 79) dX7_mute_75 (by decide) ?_
    exact s_sub (pc := 79) O [1, 2, 0, 4] rfl (g_X7_mute_79 O hi hn h hK)
def j_X7_mute_66 (M : MM) (p0 : Nat) (a1 : Int32) (a2 : Int32) (a3 : Int32) (a4 : Int32) (a5 : Int32) : Option ((Int32) ⊕ (Int32 × Int32 × Int32)) :=
  j_X7_mute_67 M p0 a1 a2 a4 a5 a3
set_option maxHeartbeats 4000000 in
set_option maxRecDepth 100000 in
theorem g_X7_mute_66 {X : CT} {lim : Nat} {M : MM} {p0 : Nat} {a1 : Int32} {a2 : Int32} {a3 : Int32} {a4 : Int32} {a5 : Int32} (O : OKX X cX7_mute RX7 4 lim 6) (hi : True) (hn : M.1 ≤ lim) {o : (Int32) ⊕ (Int32 × Int32 × Int32)} (h : j_X7_mute_66 M p0 a1 a2 a3 a4 a5 = some o) (hK : (KI (fun (q : Int32) => RTX X (some .int) (some (.int q)) M) (fun (t : Int32 × Int32 × Int32) => WS X M 19 [(0, rf X.1 p0), (1, .int a1), (2, .int t.1), (3, .int t.2.1), (4, .int t.2.2)] [])) o) : WS X M 66 [(0, rf X.1 p0), (1, .int a1), (2, .int a2), (3, .int a3), (4, .int a4), (5, .int a5)] [] := by
  unfold j_X7_mute_66 at h
  refine s_iload_n (pc := 66) O dX7_mute_66 rfl 3 rfl ?_
  exact s_sub (pc := 67) O [0, 1, 2, 4, 5] rfl (g_X7_mute_67 O hi hn h hK)
def j_X7_mute_45 (M : MM) (p0 : Nat) (a1 : Int32) (a2 : Int32) (a3 : Int32) (a4 : Int32) (s0 : Int32) : Option ((Int32) ⊕ (Int32 × Int32 × Int32)) :=
  if s0 = 0 then (j_X7_mute_66 M p0 a1 a2 a3 a4 s0) else (if a2 = 0 then ((fR M p0 7 8).bind fun v1 => (aI M v1 a4).bind fun v2 => j_X7_mute_67 M p0 a1 a2 a4 s0 v2) else (j_X7_mute_66 M p0 a1 a2 a3 a4 s0))
set_option maxHeartbeats 4000000 in
set_option maxRecDepth 100000 in
theorem g_X7_mute_45 {X : CT} {lim : Nat} {M : MM} {p0 : Nat} {a1 : Int32} {a2 : Int32} {a3 : Int32} {a4 : Int32} {s0 : Int32} (O : OKX X cX7_mute RX7 4 lim 6) (hi : True) (hn : M.1 ≤ lim) {o : (Int32) ⊕ (Int32 × Int32 × Int32)} (h : j_X7_mute_45 M p0 a1 a2 a3 a4 s0 = some o) (hK : (KI (fun (q : Int32) => RTX X (some .int) (some (.int q)) M) (fun (t : Int32 × Int32 × Int32) => WS X M 19 [(0, rf X.1 p0), (1, .int a1), (2, .int t.1), (3, .int t.2.1), (4, .int t.2.2)] [])) o) : WS X M 45 [(0, rf X.1 p0), (1, .int a1), (2, .int a2), (3, .int a3), (4, .int a4)] [.int s0] := by
  unfold j_X7_mute_45 at h
  refine s_istore (pc := 45) O (loc' := [(5, .int s0), (0, rf X.1 p0), (1, .int a1), (2, .int a2), (3, .int a3), (4, .int a4)]) dX7_mute_45 (by decide) rfl ?_
  refine s_iload (pc := 47) O dX7_mute_47 0 rfl ?_
  refine s_if_eq (pc := 49) O (tgt := 66) dX7_mute_49 (by decide) (fun c => ?_) (fun c => ?_)
  · have h := ifp c h
    exact s_sub (pc := 66) O [1, 2, 3, 4, 5, 0] rfl (g_X7_mute_66 O hi hn h hK)
  · have h := ifn c h
    refine s_iload_n (pc := 52) O dX7_mute_52 rfl 3 rfl ?_
    refine s_if_ne (pc := 53) O (tgt := 66) dX7_mute_53 (by decide) (fun c => ?_) (fun c => ?_)
    · have h := ifn c h
      exact s_sub (pc := 66) O [1, 2, 3, 4, 5, 0] rfl (g_X7_mute_66 O hi hn h hK)
    · have h := ifp c h
      refine s_aload_n (pc := 56) O dX7_mute_56 rfl 1 rfl ?_
      obtain ⟨v1, e, h⟩ := bd h
      refine s_getR (pc := 57) O kc7 (k := 8) rfl tw_679 e dX7_mute_57 ?_
      refine s_iload (pc := 60) O dX7_mute_60 5 rfl ?_
      obtain ⟨v2, e, h⟩ := bd h
      refine s_aldI (pc := 62) O e dX7_mute_62 ?_
      refine s_goto (pc := 63) O (tgt := 67) dX7_mute_63 (by decide) ?_
      exact s_sub (pc := 67) O [1, 2, 3, 5, 0] rfl (g_X7_mute_67 O hi hn h hK)
def z_X7_mute_19 (M : MM) (p0 : Nat) (a1 : Int32) (a2 : Int32) (a3 : Int32) (a4 : Int32) : Option ((Int32) ⊕ (Int32 × Int32 × Int32)) :=
  (fI M p0 7 12).bind fun v1 => if v1 ≤ a4 then ((if a1 = 0 then (some a2) else (some a3)).map .inl) else ((f_X7_bestOf M p0 a4 0).bind fun v2 => if v2 = (-9) then (j_X7_mute_45 M p0 a1 a2 a3 a4 1) else (j_X7_mute_45 M p0 a1 a2 a3 a4 0))
set_option maxHeartbeats 4000000 in
set_option maxRecDepth 100000 in
theorem b_X7_mute_19 {X : CT} {lim : Nat} {M : MM} {p0 : Nat} {a1 : Int32} {a2 : Int32} {a3 : Int32} {a4 : Int32} (O : OKX X cX7_mute RX7 4 lim 6) (hi : True) (hn : M.1 ≤ lim) {o : (Int32) ⊕ (Int32 × Int32 × Int32)} (h : z_X7_mute_19 M p0 a1 a2 a3 a4 = some o) (hK : (KI (fun (q : Int32) => RTX X (some .int) (some (.int q)) M) (fun (t : Int32 × Int32 × Int32) => WS X M 19 [(0, rf X.1 p0), (1, .int a1), (2, .int t.1), (3, .int t.2.1), (4, .int t.2.2)] [])) o) : WS X M 19 [(0, rf X.1 p0), (1, .int a1), (2, .int a2), (3, .int a3), (4, .int a4)] [] := by
  unfold z_X7_mute_19 at h
  refine s_iload (pc := 19) O dX7_mute_19 4 rfl ?_
  refine s_aload_n (pc := 21) O dX7_mute_21 rfl 0 rfl ?_
  obtain ⟨v1, e, h⟩ := bd h
  refine s_getI (pc := 22) O kc7 (k := 12) rfl tw_683 e dX7_mute_22 ?_
  refine s_icmp_ge (pc := 25) O (tgt := 87) dX7_mute_25 (by decide) (fun c => ?_) (fun c => ?_)
  · have h := ifp c h
    obtain ⟨q0, hq0, ho0⟩ := mpi h; subst ho0; replace h := hq0
    refine s_iload_n (pc := 87) O dX7_mute_87 rfl 1 rfl ?_
    refine s_if_ne (pc := 88) O (tgt := 95) dX7_mute_88 (by decide) (fun c => ?_) (fun c => ?_)
    · have h := ifn c h
      refine s_iload_n (pc := 95) O dX7_mute_95 rfl 3 rfl ?_
      cases h
      exact s_iret (pc := 96) O hK dX7_mute_96
    · have h := ifp c h
      refine s_iload_n (pc := 91) O dX7_mute_91 rfl 2 rfl ?_
      refine s_goto (pc := 92) O (tgt := 96) dX7_mute_92 (by decide) ?_
      cases h
      exact s_iret (pc := 96) O hK dX7_mute_96
  · have h := ifn c h
    refine s_aload_n (pc := 28) O dX7_mute_28 rfl 0 rfl ?_
    refine s_iload (pc := 29) O dX7_mute_29 4 rfl ?_
    refine s_iconst (pc := 31) O (v := 0) dX7_mute_31 (by decide) ?_
    obtain ⟨v2, e, h⟩ := bd h
    refine s_callVi (pc := 32) O (As := [.int a4, .int 0]) kc7 (c_X7_bestOf (G := X.1) e) cy_X7_bestOf tw_843 tw_845 tw_35 (by decide) rfl (Nat.le_refl _) hn (r_X7_bestOf e).1 (r_X7_bestOf e).2 rfl (Nat.le_of_ble_eq_true rfl) dX7_mute_32 ?_
    refine s_bipush (pc := 35) O (v := (-9)) dX7_mute_35 (by decide) ?_
    refine s_icmp_ne (pc := 37) O (tgt := 44) dX7_mute_37 (by decide) (fun c => ?_) (fun c => ?_)
    · have h := ifn c h
      refine s_iconst (pc := 44) O (v := 0) dX7_mute_44 (by decide) ?_
      exact s_sub (pc := 45) O [0, 1, 2, 3, 4] rfl (g_X7_mute_45 O hi hn h hK)
    · have h := ifp c h
      refine s_iconst (pc := 40) O (v := 1) dX7_mute_40 (by decide) ?_
      refine s_goto (pc := 41) O (tgt := 45) dX7_mute_41 (by decide) ?_
      exact s_sub (pc := 45) O [0, 1, 2, 3, 4] rfl (g_X7_mute_45 O hi hn h hK)
set_option maxHeartbeats 4000000 in
set_option maxRecDepth 100000 in
theorem l_X7_mute_19 {X : CT} {lim : Nat} {M : MM} {p0 : Nat} {a1 : Int32} {a2 : Int32} {a3 : Int32} {a4 : Int32} (O : OKX X cX7_mute RX7 4 lim 6) (hi : True) (hn : M.1 ≤ lim) {o : Int32} {n : Nat} (h : lp (fun t => z_X7_mute_19 M p0 a1 t.1 t.2.1 t.2.2) n (a2, a3, a4) = some o) (hK : (fun (q : Int32) => RTX X (some .int) (some (.int q)) M) o) : WS X M 19 [(0, rf X.1 p0), (1, .int a1), (2, .int a2), (3, .int a3), (4, .int a4)] [] := by
  refine lp_ind (P := fun (o : Int32) (t : Int32 × Int32 × Int32) => (fun (q : Int32) => RTX X (some .int) (some (.int q)) M) o → WS X M 19 [(0, rf X.1 p0), (1, .int a1), (2, .int t.1), (3, .int t.2.1), (4, .int t.2.2)] []) (fun t o hs  hK => ?_) n (a2, a3, a4) o h  hK
  rcases hs with h | ⟨u, h, hu⟩
  · exact b_X7_mute_19 O hi hn h hK
  · exact b_X7_mute_19 O hi hn h (show KI _ _ (.inr u) from hu hK)
def f_X7_mute (M : MM) (p0 : Nat) (a1 : Int32) : Option (Int32) :=
  if p0 < M.1 ∧ kd p0 = 7 then ((f_X7_in M a1 0 1).bind fun v1 => if v1 = 0 then (some ((-1))) else (lp (fun t => z_X7_mute_19 M p0 a1 t.1 t.2.1 t.2.2) FU (0, (-9), 0))) else none
theorem r_X7_mute {M : MM} {p0 : Nat} {a1 : Int32} {o : Int32} (h : f_X7_mute M p0 a1 = some o) : p0 < M.1 ∧ kd p0 = 7 := by
  unfold f_X7_mute at h
  exact (gd h).1
theorem cy_X7_mute : CallY yX7_mute cX7_mute 6 (some .int) 1 := ⟨by decide +kernel, tw_850, tw_47, by decide⟩
set_option maxHeartbeats 4000000 in
set_option maxRecDepth 100000 in
theorem c_X7_mute {G : GG} {M : MM} {p0 : Nat} {a1 : Int32} {r : Int32} (h : f_X7_mute M p0 a1 = some r) : Ct G yX7_mute cX7_mute 6 (some .int) 4 [rf G p0, .int a1] M (some (.int r)) M := by
  refine ct_of (by decide +kernel) (Nat.le_of_ble_eq_true rfl) (fun X hX O hK hi0 => ?_)
  subst hX
  obtain ⟨lim, hlim⟩ : ∃ z, z = M.1 := ⟨_, rfl⟩
  rw [← hlim] at O
  replace O : OKX X cX7_mute RX7 4 lim 6 := O
  have hi : True := trivial
  have hn : M.1 ≤ lim := Nat.le_of_eq hlim.symm
  show WS X M 0 [(0, rf X.1 p0), (1, .int a1)] []
  unfold f_X7_mute at h
  obtain ⟨hg0, h⟩ := gd h
  refine s_iload_n (pc := 0) O dX7_mute_0 rfl 1 rfl ?_
  refine s_iconst (pc := 1) O (v := 0) dX7_mute_1 (by decide) ?_
  refine s_iconst (pc := 2) O (v := 1) dX7_mute_2 (by decide) ?_
  obtain ⟨v1, e, h⟩ := bd h
  refine s_callSi (pc := 3) O (As := [.int a1, .int 0, .int 1]) (c_X7_in (G := X.1) e) cy_X7_in tw_660 tw_661 (by decide) rfl (Nat.le_refl _) hn rfl (Nat.le_of_ble_eq_true rfl) dX7_mute_3 ?_
  refine s_if_ne (pc := 6) O (tgt := 11) dX7_mute_6 (by decide) (fun c => ?_) (fun c => ?_)
  · have h := ifn c h
    refine s_iconst (pc := 11) O (v := 0) dX7_mute_11 (by decide) ?_
    refine s_istore_n (pc := 12) O (loc' := [(2, .int 0), (0, rf X.1 p0), (1, .int a1)]) dX7_mute_12 rfl (by decide) rfl ?_
    refine s_bipush (pc := 13) O (v := (-9)) dX7_mute_13 (by decide) ?_
    refine s_istore_n (pc := 15) O (loc' := [(3, .int (-9)), (2, .int 0), (0, rf X.1 p0), (1, .int a1)]) dX7_mute_15 rfl (by decide) rfl ?_
    refine s_iconst (pc := 16) O (v := 0) dX7_mute_16 (by decide) ?_
    refine s_istore (pc := 17) O (loc' := [(4, .int 0), (3, .int (-9)), (2, .int 0), (0, rf X.1 p0), (1, .int a1)]) dX7_mute_17 (by decide) rfl ?_
    exact s_sub (pc := 19) O [3, 4, 2, 1, 0] rfl (l_X7_mute_19 O hi hn h hK)
  · have h := ifp c h
    refine s_iconst (pc := 9) O (v := (-1)) dX7_mute_9 (by decide) ?_
    cases h
    exact s_iret (pc := 10) O hK dX7_mute_10

def j_X7_readsShape_85 (M : MM) (p0 : Nat) (a1 : Int32) (a2 : Int32) : Option (Int32 × MM) :=
  (fR M p0 7 4).bind fun v1 => (waI M v1 ((84 + a1)) a2).bind fun M2 => (fR M2 p0 7 4).bind fun v3 => (aI M2 v3 1).bind fun v4 => (waI M2 v3 1 ((v4 + 1))).bind fun M5 => some ((1, M5))
set_option maxHeartbeats 4000000 in
set_option maxRecDepth 100000 in
theorem g_X7_readsShape_85 {X : CT} {lim : Nat} {M : MM} {p0 : Nat} {a1 : Int32} {a2 : Int32} (O : OKX X cX7_readsShape RX7 4 lim 4) (hi : True) (hn : M.1 ≤ lim) {o : Int32 × MM} (h : j_X7_readsShape_85 M p0 a1 a2 = some o) (hK : (fun (q : Int32 × MM) => RTX X (some .boolean) (some (.int q.1)) q.2) o) : WS X M 85 [(0, rf X.1 p0), (1, .int a1), (2, .int a2)] [] := by
  unfold j_X7_readsShape_85 at h
  refine s_aload_n (pc := 85) O dX7_readsShape_85 rfl 0 rfl ?_
  obtain ⟨v1, e, h⟩ := bd h
  refine s_getR (pc := 86) O kc7 (k := 4) rfl tw_675 e dX7_readsShape_86 ?_
  refine s_bipush (pc := 89) O (v := 84) dX7_readsShape_89 (by decide) ?_
  refine s_iload_n (pc := 91) O dX7_readsShape_91 rfl 1 rfl ?_
  refine s_iadd (pc := 92) O dX7_readsShape_92 ?_
  refine s_iload_n (pc := 93) O dX7_readsShape_93 rfl 2 rfl ?_
  obtain ⟨M2, e, h⟩ := bd h
  refine s_astI (pc := 94) O e dX7_readsShape_94 ?_
  have hn : M2.1 ≤ lim := by rw [waI_n e]; exact hn
  refine s_aload_n (pc := 95) O dX7_readsShape_95 rfl 0 rfl ?_
  obtain ⟨v3, e, h⟩ := bd h
  refine s_getR (pc := 96) O kc7 (k := 4) rfl tw_675 e dX7_readsShape_96 ?_
  refine s_iconst (pc := 99) O (v := 1) dX7_readsShape_99 (by decide) ?_
  refine s_dup2 (pc := 100) O dX7_readsShape_100 rfl rfl ?_
  obtain ⟨v4, e, h⟩ := bd h
  refine s_aldI (pc := 101) O e dX7_readsShape_101 ?_
  refine s_iconst (pc := 102) O (v := 1) dX7_readsShape_102 (by decide) ?_
  refine s_iadd (pc := 103) O dX7_readsShape_103 ?_
  obtain ⟨M5, e, h⟩ := bd h
  refine s_astI (pc := 104) O e dX7_readsShape_104 ?_
  have hn : M5.1 ≤ lim := by rw [waI_n e]; exact hn
  refine s_iconst (pc := 105) O (v := 1) dX7_readsShape_105 (by decide) ?_
  cases h
  exact s_zret (pc := 106) O (by decide) hK dX7_readsShape_106
def z_X7_readsShape_34 (M : MM) (p0 : Nat) (a1 : Int32) (a2 : Int32) : Option ((Int32 × MM) ⊕ (Int32 × MM)) :=
  if (3 : Int32) ≤ a2 then ((j_X7_readsShape_85 M p0 a1 a2).map .inl) else ((fI M p0 7 14).bind fun v1 => if v1 = 2 then ((f_X7_figure M p0 2).bind fun v2 => if v2 = (-9) then (some ((.inl (0, M)))) else ((fR M p0 7 4).bind fun v3 => (waI M v3 (((88 + (3 * a1)) + a2)) v2).bind fun M4 => (f_X7_token M4 p0).bind fun M5 => if M5.1 = M4.1 then (some ((.inr ((a2 + 1), M5)))) else none)) else ((j_X7_readsShape_85 M p0 a1 a2).map .inl))
set_option maxHeartbeats 4000000 in
set_option maxRecDepth 100000 in
theorem b_X7_readsShape_34 {X : CT} {lim : Nat} {M : MM} {p0 : Nat} {a1 : Int32} {a2 : Int32} (O : OKX X cX7_readsShape RX7 4 lim 4) (hi : True) (hn : M.1 ≤ lim) {o : (Int32 × MM) ⊕ (Int32 × MM)} (h : z_X7_readsShape_34 M p0 a1 a2 = some o) (hK : (KI (fun (q : Int32 × MM) => RTX X (some .boolean) (some (.int q.1)) q.2) (fun (t : Int32 × MM) => t.2.1 ≤ lim → WS X t.2 34 [(0, rf X.1 p0), (1, .int a1), (2, .int t.1)] [])) o) : WS X M 34 [(0, rf X.1 p0), (1, .int a1), (2, .int a2)] [] := by
  unfold z_X7_readsShape_34 at h
  refine s_iload_n (pc := 34) O dX7_readsShape_34 rfl 2 rfl ?_
  refine s_iconst (pc := 35) O (v := 3) dX7_readsShape_35 (by decide) ?_
  refine s_icmp_ge (pc := 36) O (tgt := 85) dX7_readsShape_36 (by decide) (fun c => ?_) (fun c => ?_)
  · have h := ifp c h
    obtain ⟨q0, hq0, ho0⟩ := mpi h; subst ho0; replace h := hq0
    exact s_sub (pc := 85) O [0, 1, 2] rfl (g_X7_readsShape_85 O hi hn h hK)
  · have h := ifn c h
    refine s_aload_n (pc := 39) O dX7_readsShape_39 rfl 0 rfl ?_
    obtain ⟨v1, e, h⟩ := bd h
    refine s_getI (pc := 40) O kc7 (k := 14) rfl tw_685 e dX7_readsShape_40 ?_
    refine s_iconst (pc := 43) O (v := 2) dX7_readsShape_43 (by decide) ?_
    refine s_icmp_ne (pc := 44) O (tgt := 85) dX7_readsShape_44 (by decide) (fun c => ?_) (fun c => ?_)
    · have h := ifn c h
      obtain ⟨q0, hq0, ho0⟩ := mpi h; subst ho0; replace h := hq0
      exact s_sub (pc := 85) O [0, 1, 2] rfl (g_X7_readsShape_85 O hi hn h hK)
    · have h := ifp c h
      refine s_aload_n (pc := 47) O dX7_readsShape_47 rfl 0 rfl ?_
      refine s_iconst (pc := 48) O (v := 2) dX7_readsShape_48 (by decide) ?_
      obtain ⟨v2, e, h⟩ := bd h
      refine s_callVi (pc := 49) O (As := [.int 2]) kc7 (c_X7_figure (G := X.1) e) cy_X7_figure tw_773 tw_775 tw_30 (by decide) rfl (Nat.le_refl _) hn (r_X7_figure e).1 (r_X7_figure e).2 rfl (Nat.le_of_ble_eq_true rfl) dX7_readsShape_49 ?_
      refine s_istore_n (pc := 52) O (loc' := [(3, .int v2), (0, rf X.1 p0), (1, .int a1), (2, .int a2)]) dX7_readsShape_52 rfl (by decide) rfl ?_
      refine s_iload_n (pc := 53) O dX7_readsShape_53 rfl 0 rfl ?_
      refine s_bipush (pc := 54) O (v := (-9)) dX7_readsShape_54 (by decide) ?_
      refine s_icmp_ne (pc := 56) O (tgt := 61) dX7_readsShape_56 (by decide) (fun c => ?_) (fun c => ?_)
      · have h := ifn c h
        refine s_aload_n (pc := 61) O dX7_readsShape_61 rfl 1 rfl ?_
        obtain ⟨v3, e, h⟩ := bd h
        refine s_getR (pc := 62) O kc7 (k := 4) rfl tw_675 e dX7_readsShape_62 ?_
        refine s_bipush (pc := 65) O (v := 88) dX7_readsShape_65 (by decide) ?_
        refine s_iconst (pc := 67) O (v := 3) dX7_readsShape_67 (by decide) ?_
        refine s_iload_n (pc := 68) O dX7_readsShape_68 rfl 2 rfl ?_
        refine s_imul (pc := 69) O dX7_readsShape_69 ?_
        refine s_iadd (pc := 70) O dX7_readsShape_70 ?_
        refine s_iload_n (pc := 71) O dX7_readsShape_71 rfl 3 rfl ?_
        refine s_iadd (pc := 72) O dX7_readsShape_72 ?_
        refine s_iload_n (pc := 73) O dX7_readsShape_73 rfl 0 rfl ?_
        obtain ⟨M4, e, h⟩ := bd h
        refine s_astI (pc := 74) O e dX7_readsShape_74 ?_
        have hn : M4.1 ≤ lim := by rw [waI_n e]; exact hn
        refine s_iinc (pc := 75) O (v := (a2 + 1)) (loc' := [(2, .int (a2 + 1)), (3, .int v2), (0, rf X.1 p0), (1, .int a1)]) dX7_readsShape_75 3 rfl rfl (by decide) rfl ?_
        refine s_aload_n (pc := 78) O dX7_readsShape_78 rfl 2 rfl ?_
        obtain ⟨M5, e, h⟩ := bd h
        obtain ⟨hg, h⟩ := gd h
        refine s_callVv (pc := 79) O (As := []) kc7 (c_X7_token (G := X.1) e (Nat.le_of_eq hg.symm)) cy_X7_token tw_743 tw_745 tw_24 (by decide) rfl (Nat.le_of_eq hg.symm) (by rw [hg]; exact hn) (r_X7_token e).1 (r_X7_token e).2 rfl (Nat.le_of_ble_eq_true rfl) dX7_readsShape_79 ?_
        have hn : M5.1 ≤ lim := by rw [hg]; exact hn
        refine s_goto (pc := 82) O (tgt := 34) dX7_readsShape_82 (by decide) ?_
        cases h
        exact s_sub (pc := 34) O [2, 3, 0] rfl (hK hn)
      · have h := ifp c h
        refine s_iconst (pc := 59) O (v := 0) dX7_readsShape_59 (by decide) ?_
        cases h
        exact s_zret (pc := 60) O (by decide) hK dX7_readsShape_60
set_option maxHeartbeats 4000000 in
set_option maxRecDepth 100000 in
theorem l_X7_readsShape_34 {X : CT} {lim : Nat} {M : MM} {p0 : Nat} {a1 : Int32} {a2 : Int32} (O : OKX X cX7_readsShape RX7 4 lim 4) (hi : True) (hn : M.1 ≤ lim) {o : Int32 × MM} {n : Nat} (h : lp (fun t => z_X7_readsShape_34 t.2 p0 a1 t.1) n (a2, M) = some o) (hK : (fun (q : Int32 × MM) => RTX X (some .boolean) (some (.int q.1)) q.2) o) : WS X M 34 [(0, rf X.1 p0), (1, .int a1), (2, .int a2)] [] := by
  refine lp_ind (P := fun (o : Int32 × MM) (t : Int32 × MM) => t.2.1 ≤ lim → (fun (q : Int32 × MM) => RTX X (some .boolean) (some (.int q.1)) q.2) o → WS X t.2 34 [(0, rf X.1 p0), (1, .int a1), (2, .int t.1)] []) (fun t o hs hn hK => ?_) n (a2, M) o h hn hK
  rcases hs with h | ⟨u, h, hu⟩
  · exact b_X7_readsShape_34 O hi hn h hK
  · exact b_X7_readsShape_34 O hi hn h (show KI _ _ (.inr u) from fun hn => hu hn hK)
def f_X7_readsShape (M : MM) (p0 : Nat) : Option (Int32 × MM) :=
  if p0 < M.1 ∧ kd p0 = 7 then ((fR M p0 7 4).bind fun v1 => (aI M v1 1).bind fun v2 => if v2 = 4 then (some ((0, M))) else ((f_X7_readsNumber M p0 ((88 + (3 * v2))) 2).bind fun v3 => if v3.2.1 = M.1 then (if v3.1 = 0 then (some ((0, v3.2))) else ((f_X7_token v3.2 p0).bind fun M4 => if M4.1 = v3.2.1 then (lp (fun t => z_X7_readsShape_34 t.2 p0 v2 t.1) FU (1, M4)) else none)) else none)) else none
theorem r_X7_readsShape {M : MM} {p0 : Nat} {o : Int32 × MM} (h : f_X7_readsShape M p0 = some o) : p0 < M.1 ∧ kd p0 = 7 := by
  unfold f_X7_readsShape at h
  exact (gd h).1
theorem cy_X7_readsShape : CallY yX7_readsShape cX7_readsShape 4 (some .boolean) 0 := ⟨by decide +kernel, tw_780, tw_47, by decide⟩
set_option maxHeartbeats 4000000 in
set_option maxRecDepth 100000 in
theorem c_X7_readsShape {G : GG} {M : MM} {p0 : Nat} {r : Int32} {M' : MM} (h : f_X7_readsShape M p0 = some (r, M')) (hn : M.1 ≤ M'.1) : Ct G yX7_readsShape cX7_readsShape 4 (some .boolean) 4 [rf G p0] M (some (.int r)) M' := by
  refine ct_of (by decide +kernel) (Nat.le_of_ble_eq_true rfl) (fun X hX O hK hi0 => ?_)
  subst hX
  obtain ⟨lim, hlim⟩ : ∃ z, z = M'.1 := ⟨_, rfl⟩
  rw [← hlim] at O hn
  replace O : OKX X cX7_readsShape RX7 4 lim 4 := O
  have hi : True := trivial
  show WS X M 0 [(0, rf X.1 p0)] []
  replace hK : (fun (q : Int32 × MM) => RTX X (some .boolean) (some (.int q.1)) q.2) (r, M') := hK
  generalize (r, M') = o at h hK
  unfold f_X7_readsShape at h
  obtain ⟨hg0, h⟩ := gd h
  refine s_aload_n (pc := 0) O dX7_readsShape_0 rfl 0 rfl ?_
  obtain ⟨v1, e, h⟩ := bd h
  refine s_getR (pc := 1) O kc7 (k := 4) rfl tw_675 e dX7_readsShape_1 ?_
  refine s_iconst (pc := 4) O (v := 1) dX7_readsShape_4 (by decide) ?_
  obtain ⟨v2, e, h⟩ := bd h
  refine s_aldI (pc := 5) O e dX7_readsShape_5 ?_
  refine s_istore_n (pc := 6) O (loc' := [(1, .int v2), (0, rf X.1 p0)]) dX7_readsShape_6 rfl (by decide) rfl ?_
  refine s_iload_n (pc := 7) O dX7_readsShape_7 rfl 0 rfl ?_
  refine s_iconst (pc := 8) O (v := 4) dX7_readsShape_8 (by decide) ?_
  refine s_icmp_eq (pc := 9) O (tgt := 26) dX7_readsShape_9 (by decide) (fun c => ?_) (fun c => ?_)
  · have h := ifp c h
    refine s_iconst (pc := 26) O (v := 0) dX7_readsShape_26 (by decide) ?_
    cases h
    exact s_zret (pc := 27) O (by decide) hK dX7_readsShape_27
  · have h := ifn c h
    refine s_aload_n (pc := 12) O dX7_readsShape_12 rfl 1 rfl ?_
    refine s_bipush (pc := 13) O (v := 88) dX7_readsShape_13 (by decide) ?_
    refine s_iconst (pc := 15) O (v := 3) dX7_readsShape_15 (by decide) ?_
    refine s_iload_n (pc := 16) O dX7_readsShape_16 rfl 0 rfl ?_
    refine s_imul (pc := 17) O dX7_readsShape_17 ?_
    refine s_iadd (pc := 18) O dX7_readsShape_18 ?_
    refine s_iconst (pc := 19) O (v := 2) dX7_readsShape_19 (by decide) ?_
    obtain ⟨v3, e, h⟩ := bd h
    obtain ⟨hg, h⟩ := gd h
    refine s_callVi (pc := 20) O (As := [.int (88 + (3 * v2)), .int 2]) kc7 (c_X7_readsNumber (G := X.1) e (Nat.le_of_eq hg.symm)) cy_X7_readsNumber tw_769 tw_771 tw_29 (by decide) rfl (Nat.le_of_eq hg.symm) (by rw [hg]; exact hn) (r_X7_readsNumber e).1 (r_X7_readsNumber e).2 rfl (Nat.le_of_ble_eq_true rfl) dX7_readsShape_20 ?_
    have hn : v3.2.1 ≤ lim := by rw [hg]; exact hn
    refine s_if_ne (pc := 23) O (tgt := 28) dX7_readsShape_23 (by decide) (fun c => ?_) (fun c => ?_)
    · have h := ifn c h
      refine s_iconst (pc := 28) O (v := 1) dX7_readsShape_28 (by decide) ?_
      refine s_istore_n (pc := 29) O (loc' := [(2, .int 1), (1, .int v2), (0, rf X.1 p0)]) dX7_readsShape_29 rfl (by decide) rfl ?_
      refine s_aload_n (pc := 30) O dX7_readsShape_30 rfl 2 rfl ?_
      obtain ⟨M4, e, h⟩ := bd h
      obtain ⟨hg, h⟩ := gd h
      refine s_callVv (pc := 31) O (As := []) kc7 (c_X7_token (G := X.1) e (Nat.le_of_eq hg.symm)) cy_X7_token tw_743 tw_745 tw_24 (by decide) rfl (Nat.le_of_eq hg.symm) (by rw [hg]; exact hn) (r_X7_token e).1 (r_X7_token e).2 rfl (Nat.le_of_ble_eq_true rfl) dX7_readsShape_31 ?_
      have hn : M4.1 ≤ lim := by rw [hg]; exact hn
      exact s_sub (pc := 34) O [2, 1, 0] rfl (l_X7_readsShape_34 O hi hn h hK)
    · have h := ifp c h
      refine s_iconst (pc := 26) O (v := 0) dX7_readsShape_26 (by decide) ?_
      cases h
      exact s_zret (pc := 27) O (by decide) hK dX7_readsShape_27

def f_X7_readsWord (M : MM) (p0 : Nat) : Option (Int32 × MM) :=
  if p0 < M.1 ∧ kd p0 = 7 then ((fR M p0 7 4).bind fun v1 => (aI M v1 0).bind fun v2 => if v2 = 9 then (some ((0, M))) else ((f_X7_readsSigns M p0 v2).bind fun v3 => if v3.2.1 = M.1 then (if v3.1 = 0 then (some ((0, v3.2))) else ((f_X7_readsNumber v3.2 p0 ((3 + v2)) 2).bind fun v4 => if v4.2.1 = v3.2.1 then (if v4.1 = 0 then (some ((0, v4.2))) else ((f_X7_readsNumber v4.2 p0 ((12 + v2)) 9).bind fun v5 => if v5.2.1 = v4.2.1 then (if v5.1 = 0 then (some ((0, v5.2))) else ((f_X7_readsNumber v5.2 p0 ((21 + v2)) 9).bind fun v6 => if v6.2.1 = v5.2.1 then (if v6.1 = 0 then (some ((0, v6.2))) else ((fR v6.2 p0 7 4).bind fun v7 => (aI v6.2 v7 0).bind fun v8 => (waI v6.2 v7 0 ((v8 + 1))).bind fun M9 => (f_X7_token M9 p0).bind fun M10 => if M10.1 = M9.1 then (some ((1, M10))) else none)) else none)) else none)) else none)) else none)) else none
theorem r_X7_readsWord {M : MM} {p0 : Nat} {o : Int32 × MM} (h : f_X7_readsWord M p0 = some o) : p0 < M.1 ∧ kd p0 = 7 := by
  unfold f_X7_readsWord at h
  exact (gd h).1
theorem cy_X7_readsWord : CallY yX7_readsWord cX7_readsWord 2 (some .boolean) 0 := ⟨by decide +kernel, tw_764, tw_47, by decide⟩
set_option maxHeartbeats 4000000 in
set_option maxRecDepth 100000 in
theorem c_X7_readsWord {G : GG} {M : MM} {p0 : Nat} {r : Int32} {M' : MM} (h : f_X7_readsWord M p0 = some (r, M')) (hn : M.1 ≤ M'.1) : Ct G yX7_readsWord cX7_readsWord 2 (some .boolean) 4 [rf G p0] M (some (.int r)) M' := by
  refine ct_of (by decide +kernel) (Nat.le_of_ble_eq_true rfl) (fun X hX O hK hi0 => ?_)
  subst hX
  obtain ⟨lim, hlim⟩ : ∃ z, z = M'.1 := ⟨_, rfl⟩
  rw [← hlim] at O hn
  replace O : OKX X cX7_readsWord RX7 4 lim 2 := O
  have hi : True := trivial
  show WS X M 0 [(0, rf X.1 p0)] []
  replace hK : (fun (q : Int32 × MM) => RTX X (some .boolean) (some (.int q.1)) q.2) (r, M') := hK
  generalize (r, M') = o at h hK
  unfold f_X7_readsWord at h
  obtain ⟨hg0, h⟩ := gd h
  refine s_aload_n (pc := 0) O dX7_readsWord_0 rfl 0 rfl ?_
  obtain ⟨v1, e, h⟩ := bd h
  refine s_getR (pc := 1) O kc7 (k := 4) rfl tw_675 e dX7_readsWord_1 ?_
  refine s_iconst (pc := 4) O (v := 0) dX7_readsWord_4 (by decide) ?_
  obtain ⟨v2, e, h⟩ := bd h
  refine s_aldI (pc := 5) O e dX7_readsWord_5 ?_
  refine s_istore_n (pc := 6) O (loc' := [(1, .int v2), (0, rf X.1 p0)]) dX7_readsWord_6 rfl (by decide) rfl ?_
  refine s_iload_n (pc := 7) O dX7_readsWord_7 rfl 0 rfl ?_
  refine s_bipush (pc := 8) O (v := 9) dX7_readsWord_8 (by decide) ?_
  refine s_icmp_eq (pc := 10) O (tgt := 58) dX7_readsWord_10 (by decide) (fun c => ?_) (fun c => ?_)
  · have h := ifp c h
    refine s_iconst (pc := 58) O (v := 0) dX7_readsWord_58 (by decide) ?_
    cases h
    exact s_zret (pc := 59) O (by decide) hK dX7_readsWord_59
  · have h := ifn c h
    refine s_aload_n (pc := 13) O dX7_readsWord_13 rfl 1 rfl ?_
    refine s_iload_n (pc := 14) O dX7_readsWord_14 rfl 0 rfl ?_
    obtain ⟨v3, e, h⟩ := bd h
    obtain ⟨hg, h⟩ := gd h
    refine s_callVi (pc := 15) O (As := [.int v2]) kc7 (c_X7_readsSigns (G := X.1) e (Nat.le_of_eq hg.symm)) cy_X7_readsSigns tw_765 tw_767 tw_28 (by decide) rfl (Nat.le_of_eq hg.symm) (by rw [hg]; exact hn) (r_X7_readsSigns e).1 (r_X7_readsSigns e).2 rfl (Nat.le_of_ble_eq_true rfl) dX7_readsWord_15 ?_
    have hn : v3.2.1 ≤ lim := by rw [hg]; exact hn
    refine s_if_eq (pc := 18) O (tgt := 58) dX7_readsWord_18 (by decide) (fun c => ?_) (fun c => ?_)
    · have h := ifp c h
      refine s_iconst (pc := 58) O (v := 0) dX7_readsWord_58 (by decide) ?_
      cases h
      exact s_zret (pc := 59) O (by decide) hK dX7_readsWord_59
    · have h := ifn c h
      refine s_aload_n (pc := 21) O dX7_readsWord_21 rfl 1 rfl ?_
      refine s_iconst (pc := 22) O (v := 3) dX7_readsWord_22 (by decide) ?_
      refine s_iload_n (pc := 23) O dX7_readsWord_23 rfl 0 rfl ?_
      refine s_iadd (pc := 24) O dX7_readsWord_24 ?_
      refine s_iconst (pc := 25) O (v := 2) dX7_readsWord_25 (by decide) ?_
      obtain ⟨v4, e, h⟩ := bd h
      obtain ⟨hg, h⟩ := gd h
      refine s_callVi (pc := 26) O (As := [.int (3 + v2), .int 2]) kc7 (c_X7_readsNumber (G := X.1) e (Nat.le_of_eq hg.symm)) cy_X7_readsNumber tw_769 tw_771 tw_29 (by decide) rfl (Nat.le_of_eq hg.symm) (by rw [hg]; exact hn) (r_X7_readsNumber e).1 (r_X7_readsNumber e).2 rfl (Nat.le_of_ble_eq_true rfl) dX7_readsWord_26 ?_
      have hn : v4.2.1 ≤ lim := by rw [hg]; exact hn
      refine s_if_eq (pc := 29) O (tgt := 58) dX7_readsWord_29 (by decide) (fun c => ?_) (fun c => ?_)
      · have h := ifp c h
        refine s_iconst (pc := 58) O (v := 0) dX7_readsWord_58 (by decide) ?_
        cases h
        exact s_zret (pc := 59) O (by decide) hK dX7_readsWord_59
      · have h := ifn c h
        refine s_aload_n (pc := 32) O dX7_readsWord_32 rfl 1 rfl ?_
        refine s_bipush (pc := 33) O (v := 12) dX7_readsWord_33 (by decide) ?_
        refine s_iload_n (pc := 35) O dX7_readsWord_35 rfl 0 rfl ?_
        refine s_iadd (pc := 36) O dX7_readsWord_36 ?_
        refine s_bipush (pc := 37) O (v := 9) dX7_readsWord_37 (by decide) ?_
        obtain ⟨v5, e, h⟩ := bd h
        obtain ⟨hg, h⟩ := gd h
        refine s_callVi (pc := 39) O (As := [.int (12 + v2), .int 9]) kc7 (c_X7_readsNumber (G := X.1) e (Nat.le_of_eq hg.symm)) cy_X7_readsNumber tw_769 tw_771 tw_29 (by decide) rfl (Nat.le_of_eq hg.symm) (by rw [hg]; exact hn) (r_X7_readsNumber e).1 (r_X7_readsNumber e).2 rfl (Nat.le_of_ble_eq_true rfl) dX7_readsWord_39 ?_
        have hn : v5.2.1 ≤ lim := by rw [hg]; exact hn
        refine s_if_eq (pc := 42) O (tgt := 58) dX7_readsWord_42 (by decide) (fun c => ?_) (fun c => ?_)
        · have h := ifp c h
          refine s_iconst (pc := 58) O (v := 0) dX7_readsWord_58 (by decide) ?_
          cases h
          exact s_zret (pc := 59) O (by decide) hK dX7_readsWord_59
        · have h := ifn c h
          refine s_aload_n (pc := 45) O dX7_readsWord_45 rfl 1 rfl ?_
          refine s_bipush (pc := 46) O (v := 21) dX7_readsWord_46 (by decide) ?_
          refine s_iload_n (pc := 48) O dX7_readsWord_48 rfl 0 rfl ?_
          refine s_iadd (pc := 49) O dX7_readsWord_49 ?_
          refine s_bipush (pc := 50) O (v := 9) dX7_readsWord_50 (by decide) ?_
          obtain ⟨v6, e, h⟩ := bd h
          obtain ⟨hg, h⟩ := gd h
          refine s_callVi (pc := 52) O (As := [.int (21 + v2), .int 9]) kc7 (c_X7_readsNumber (G := X.1) e (Nat.le_of_eq hg.symm)) cy_X7_readsNumber tw_769 tw_771 tw_29 (by decide) rfl (Nat.le_of_eq hg.symm) (by rw [hg]; exact hn) (r_X7_readsNumber e).1 (r_X7_readsNumber e).2 rfl (Nat.le_of_ble_eq_true rfl) dX7_readsWord_52 ?_
          have hn : v6.2.1 ≤ lim := by rw [hg]; exact hn
          refine s_if_ne (pc := 55) O (tgt := 60) dX7_readsWord_55 (by decide) (fun c => ?_) (fun c => ?_)
          · have h := ifn c h
            refine s_aload_n (pc := 60) O dX7_readsWord_60 rfl 1 rfl ?_
            obtain ⟨v7, e, h⟩ := bd h
            refine s_getR (pc := 61) O kc7 (k := 4) rfl tw_675 e dX7_readsWord_61 ?_
            refine s_iconst (pc := 64) O (v := 0) dX7_readsWord_64 (by decide) ?_
            refine s_dup2 (pc := 65) O dX7_readsWord_65 rfl rfl ?_
            obtain ⟨v8, e, h⟩ := bd h
            refine s_aldI (pc := 66) O e dX7_readsWord_66 ?_
            refine s_iconst (pc := 67) O (v := 1) dX7_readsWord_67 (by decide) ?_
            refine s_iadd (pc := 68) O dX7_readsWord_68 ?_
            obtain ⟨M9, e, h⟩ := bd h
            refine s_astI (pc := 69) O e dX7_readsWord_69 ?_
            have hn : M9.1 ≤ lim := by rw [waI_n e]; exact hn
            refine s_aload_n (pc := 70) O dX7_readsWord_70 rfl 1 rfl ?_
            obtain ⟨M10, e, h⟩ := bd h
            obtain ⟨hg, h⟩ := gd h
            refine s_callVv (pc := 71) O (As := []) kc7 (c_X7_token (G := X.1) e (Nat.le_of_eq hg.symm)) cy_X7_token tw_743 tw_745 tw_24 (by decide) rfl (Nat.le_of_eq hg.symm) (by rw [hg]; exact hn) (r_X7_token e).1 (r_X7_token e).2 rfl (Nat.le_of_ble_eq_true rfl) dX7_readsWord_71 ?_
            have hn : M10.1 ≤ lim := by rw [hg]; exact hn
            refine s_iconst (pc := 74) O (v := 1) dX7_readsWord_74 (by decide) ?_
            cases h
            exact s_zret (pc := 75) O (by decide) hK dX7_readsWord_75
          · have h := ifp c h
            refine s_iconst (pc := 58) O (v := 0) dX7_readsWord_58 (by decide) ?_
            cases h
            exact s_zret (pc := 59) O (by decide) hK dX7_readsWord_59

def f_X7_chain (M : MM) (p0 : Nat) (a1 : Int32) (a2 : Int32) : Option (Int32 × MM) :=
  if p0 < M.1 ∧ kd p0 = 7 then ((f_X7_placeOf M p0 a1).bind fun v1 => if v1 = (-9) then (some (((-1), M))) else ((f_X7_in M a2 0 99).bind fun v2 => if v2 = 0 then (some (((-1), M))) else ((f_X7_lays M p0 v1).bind fun v3 => if v3.2.1 = M.1 then (if v3.1 ≤ a2 then (some (((-9), v3.2))) else ((fR v3.2 p0 7 8).bind fun v4 => (fR v3.2 p0 7 17).bind fun v5 => (aI v3.2 v5 a2).bind fun v6 => (aI v3.2 v4 v6).bind fun v7 => some ((v7, v3.2)))) else none))) else none
theorem r_X7_chain {M : MM} {p0 : Nat} {a1 : Int32} {a2 : Int32} {o : Int32 × MM} (h : f_X7_chain M p0 a1 a2 = some o) : p0 < M.1 ∧ kd p0 = 7 := by
  unfold f_X7_chain at h
  exact (gd h).1
theorem cy_X7_chain : CallY yX7_chain cX7_chain 4 (some .int) 2 := ⟨by decide +kernel, tw_862, tw_47, by decide⟩
set_option maxHeartbeats 4000000 in
set_option maxRecDepth 100000 in
theorem c_X7_chain {G : GG} {M : MM} {p0 : Nat} {a1 : Int32} {a2 : Int32} {r : Int32} {M' : MM} (h : f_X7_chain M p0 a1 a2 = some (r, M')) (hn : M.1 ≤ M'.1) : Ct G yX7_chain cX7_chain 4 (some .int) 5 [rf G p0, .int a1, .int a2] M (some (.int r)) M' := by
  refine ct_of (by decide +kernel) (Nat.le_of_ble_eq_true rfl) (fun X hX O hK hi0 => ?_)
  subst hX
  obtain ⟨lim, hlim⟩ : ∃ z, z = M'.1 := ⟨_, rfl⟩
  rw [← hlim] at O hn
  replace O : OKX X cX7_chain RX7 5 lim 4 := O
  have hi : True := trivial
  show WS X M 0 [(0, rf X.1 p0), (1, .int a1), (2, .int a2)] []
  replace hK : (fun (q : Int32 × MM) => RTX X (some .int) (some (.int q.1)) q.2) (r, M') := hK
  generalize (r, M') = o at h hK
  unfold f_X7_chain at h
  obtain ⟨hg0, h⟩ := gd h
  refine s_aload_n (pc := 0) O dX7_chain_0 rfl 0 rfl ?_
  refine s_iload_n (pc := 1) O dX7_chain_1 rfl 1 rfl ?_
  obtain ⟨v1, e, h⟩ := bd h
  refine s_callVi (pc := 2) O (As := [.int a1]) kc7 (c_X7_placeOf (G := X.1) e) cy_X7_placeOf tw_801 tw_803 tw_33 (by decide) rfl (Nat.le_refl _) hn (r_X7_placeOf e).1 (r_X7_placeOf e).2 rfl (Nat.le_of_ble_eq_true rfl) dX7_chain_2 ?_
  refine s_istore_n (pc := 5) O (loc' := [(3, .int v1), (0, rf X.1 p0), (1, .int a1), (2, .int a2)]) dX7_chain_5 rfl (by decide) rfl ?_
  refine s_iload_n (pc := 6) O dX7_chain_6 rfl 0 rfl ?_
  refine s_bipush (pc := 7) O (v := (-9)) dX7_chain_7 (by decide) ?_
  refine s_icmp_eq (pc := 9) O (tgt := 22) dX7_chain_9 (by decide) (fun c => ?_) (fun c => ?_)
  · have h := ifp c h
    refine s_iconst (pc := 22) O (v := (-1)) dX7_chain_22 (by decide) ?_
    cases h
    exact s_iret (pc := 23) O hK dX7_chain_23
  · have h := ifn c h
    refine s_iload_n (pc := 12) O dX7_chain_12 rfl 3 rfl ?_
    refine s_iconst (pc := 13) O (v := 0) dX7_chain_13 (by decide) ?_
    refine s_bipush (pc := 14) O (v := 99) dX7_chain_14 (by decide) ?_
    obtain ⟨v2, e, h⟩ := bd h
    refine s_callSi (pc := 16) O (As := [.int a2, .int 0, .int 99]) (c_X7_in (G := X.1) e) cy_X7_in tw_660 tw_661 (by decide) rfl (Nat.le_refl _) hn rfl (Nat.le_of_ble_eq_true rfl) dX7_chain_16 ?_
    refine s_if_ne (pc := 19) O (tgt := 24) dX7_chain_19 (by decide) (fun c => ?_) (fun c => ?_)
    · have h := ifn c h
      refine s_iload_n (pc := 24) O dX7_chain_24 rfl 3 rfl ?_
      refine s_aload_n (pc := 25) O dX7_chain_25 rfl 1 rfl ?_
      refine s_iload_n (pc := 26) O dX7_chain_26 rfl 0 rfl ?_
      obtain ⟨v3, e, h⟩ := bd h
      obtain ⟨hg, h⟩ := gd h
      refine s_callVi (pc := 27) O (As := [.int v1]) kc7 (c_X7_lays (G := X.1) e (Nat.le_of_eq hg.symm)) cy_X7_lays tw_863 tw_865 tw_36 (by decide) rfl (Nat.le_of_eq hg.symm) (by rw [hg]; exact hn) (r_X7_lays e).1 (r_X7_lays e).2 rfl (Nat.le_of_ble_eq_true rfl) dX7_chain_27 ?_
      have hn : v3.2.1 ≤ lim := by rw [hg]; exact hn
      refine s_icmp_ge (pc := 30) O (tgt := 47) dX7_chain_30 (by decide) (fun c => ?_) (fun c => ?_)
      · have h := ifp c h
        refine s_bipush (pc := 47) O (v := (-9)) dX7_chain_47 (by decide) ?_
        cases h
        exact s_iret (pc := 49) O hK dX7_chain_49
      · have h := ifn c h
        refine s_aload_n (pc := 33) O dX7_chain_33 rfl 1 rfl ?_
        obtain ⟨v4, e, h⟩ := bd h
        refine s_getR (pc := 34) O kc7 (k := 8) rfl tw_679 e dX7_chain_34 ?_
        refine s_aload_n (pc := 37) O dX7_chain_37 rfl 1 rfl ?_
        obtain ⟨v5, e, h⟩ := bd h
        refine s_getR (pc := 38) O kc7 (k := 17) rfl tw_688 e dX7_chain_38 ?_
        refine s_iload_n (pc := 41) O dX7_chain_41 rfl 3 rfl ?_
        obtain ⟨v6, e, h⟩ := bd h
        refine s_aldI (pc := 42) O e dX7_chain_42 ?_
        obtain ⟨v7, e, h⟩ := bd h
        refine s_aldI (pc := 43) O e dX7_chain_43 ?_
        refine s_goto (pc := 44) O (tgt := 49) dX7_chain_44 (by decide) ?_
        cases h
        exact s_iret (pc := 49) O hK dX7_chain_49
    · have h := ifp c h
      refine s_iconst (pc := 22) O (v := (-1)) dX7_chain_22 (by decide) ?_
      cases h
      exact s_iret (pc := 23) O hK dX7_chain_23

def f_X7_init (lim : Nat) (M : MM) (p0 : Nat) : Option (MM) :=
  if p0 < M.1 ∧ kd p0 = 7 then ((nArr M lim 8 200).bind fun M1 => (wfR M1 p0 7 1 M.1).bind fun M2 => (nArr M2 lim 8 110).bind fun M3 => (wfR M3 p0 7 3 M2.1).bind fun M4 => (nArr M4 lim 8 110).bind fun M5 => (wfR M5 p0 7 4 M4.1).bind fun M6 => (nArr M6 lim 8 13).bind fun M7 => (wfR M7 p0 7 5 M6.1).bind fun M8 => (nArr M8 lim 8 26).bind fun M9 => (wfR M9 p0 7 6 M8.1).bind fun M10 => (nArr M10 lim 10 2).bind fun M11 => (wfR M11 p0 7 7 M10.1).bind fun M12 => (nArr M12 lim 8 820).bind fun M13 => (wfR M13 p0 7 8 M12.1).bind fun M14 => (nArr M14 lim 8 820).bind fun M15 => (wfR M15 p0 7 9 M14.1).bind fun M16 => (nArr M16 lim 8 820).bind fun M17 => (wfR M17 p0 7 10 M16.1).bind fun M18 => (nArr M18 lim 8 820).bind fun M19 => (wfR M19 p0 7 11 M18.1).bind fun M20 => (nArr M20 lim 8 100).bind fun M21 => (wfR M21 p0 7 17 M20.1).bind fun M22 => (f_X7_lists M22 p0).bind fun M23 => if M23.1 = M22.1 then (some M23) else none) else none
theorem r_X7_init {lim : Nat} {M : MM} {p0 : Nat} {o : MM} (h : f_X7_init lim M p0 = some o) : p0 < M.1 ∧ kd p0 = 7 := by
  unfold f_X7_init at h
  exact (gd h).1
theorem cy_X7_init : CallY yX7_init cX7_init 1 (none) 0 := ⟨by decide +kernel, tw_640, tw_47, by decide⟩
set_option maxHeartbeats 4000000 in
set_option maxRecDepth 100000 in
theorem c_X7_init {G : GG} {M : MM} {p0 : Nat} {M' : MM} (h : f_X7_init M'.1 M p0 = some M') (hn : M.1 ≤ M'.1) : Ct G yX7_init cX7_init 1 (none) 5 [rf G p0] M (none) M' := by
  refine ct_of (by decide +kernel) (Nat.le_of_ble_eq_true rfl) (fun X hX O hK hi0 => ?_)
  subst hX
  obtain ⟨lim, hlim⟩ : ∃ z, z = M'.1 := ⟨_, rfl⟩
  rw [← hlim] at O hn h
  replace O : OKX X cX7_init RX7 5 lim 1 := O
  have hi : isInit X := hi0 rfl
  show WS X M 0 [(0, rf X.1 p0)] []
  unfold f_X7_init at h
  obtain ⟨hg0, h⟩ := gd h
  refine s_aload_n (pc := 0) O dX7_init_0 rfl 0 rfl ?_
  refine s_objInit (pc := 1) O tw_641 tw_60 tw_61 (by decide) (Nat.le_of_ble_eq_true rfl) dX7_init_1 ?_
  refine s_aload_n (pc := 4) O dX7_init_4 rfl 0 rfl ?_
  refine s_sipush (pc := 5) O (v := 200) dX7_init_5 (by decide) ?_
  obtain ⟨M1, e, h⟩ := bd h
  refine s_newaI (pc := 8) O tw_94 (ln_small _) e dX7_init_8 ?_
  have hn : M1.1 ≤ lim := nArr_n e
  obtain ⟨M2, e, h⟩ := bd h
  refine s_putRF (pc := 10) O kc7 (k := 1) rfl (Or.inr ⟨_, rfl⟩) rfl hi rfl tw_672 e dX7_init_10 ?_
  have hn : M2.1 ≤ lim := by rw [wfR_n e]; exact hn
  refine s_aload_n (pc := 13) O dX7_init_13 rfl 0 rfl ?_
  refine s_bipush (pc := 14) O (v := 110) dX7_init_14 (by decide) ?_
  obtain ⟨M3, e, h⟩ := bd h
  refine s_newaI (pc := 16) O tw_94 (ln_small _) e dX7_init_16 ?_
  have hn : M3.1 ≤ lim := nArr_n e
  obtain ⟨M4, e, h⟩ := bd h
  refine s_putRF (pc := 18) O kc7 (k := 3) rfl (Or.inr ⟨_, rfl⟩) rfl hi rfl tw_674 e dX7_init_18 ?_
  have hn : M4.1 ≤ lim := by rw [wfR_n e]; exact hn
  refine s_aload_n (pc := 21) O dX7_init_21 rfl 0 rfl ?_
  refine s_bipush (pc := 22) O (v := 110) dX7_init_22 (by decide) ?_
  obtain ⟨M5, e, h⟩ := bd h
  refine s_newaI (pc := 24) O tw_94 (ln_small _) e dX7_init_24 ?_
  have hn : M5.1 ≤ lim := nArr_n e
  obtain ⟨M6, e, h⟩ := bd h
  refine s_putRF (pc := 26) O kc7 (k := 4) rfl (Or.inr ⟨_, rfl⟩) rfl hi rfl tw_675 e dX7_init_26 ?_
  have hn : M6.1 ≤ lim := by rw [wfR_n e]; exact hn
  refine s_aload_n (pc := 29) O dX7_init_29 rfl 0 rfl ?_
  refine s_bipush (pc := 30) O (v := 13) dX7_init_30 (by decide) ?_
  obtain ⟨M7, e, h⟩ := bd h
  refine s_newaI (pc := 32) O tw_94 (ln_small _) e dX7_init_32 ?_
  have hn : M7.1 ≤ lim := nArr_n e
  obtain ⟨M8, e, h⟩ := bd h
  refine s_putRF (pc := 34) O kc7 (k := 5) rfl (Or.inr ⟨_, rfl⟩) rfl hi rfl tw_676 e dX7_init_34 ?_
  have hn : M8.1 ≤ lim := by rw [wfR_n e]; exact hn
  refine s_aload_n (pc := 37) O dX7_init_37 rfl 0 rfl ?_
  refine s_bipush (pc := 38) O (v := 26) dX7_init_38 (by decide) ?_
  obtain ⟨M9, e, h⟩ := bd h
  refine s_newaI (pc := 40) O tw_94 (ln_small _) e dX7_init_40 ?_
  have hn : M9.1 ≤ lim := nArr_n e
  obtain ⟨M10, e, h⟩ := bd h
  refine s_putRF (pc := 42) O kc7 (k := 6) rfl (Or.inr ⟨_, rfl⟩) rfl hi rfl tw_677 e dX7_init_42 ?_
  have hn : M10.1 ≤ lim := by rw [wfR_n e]; exact hn
  refine s_aload_n (pc := 45) O dX7_init_45 rfl 0 rfl ?_
  refine s_iconst (pc := 46) O (v := 2) dX7_init_46 (by decide) ?_
  obtain ⟨M11, e, h⟩ := bd h
  refine s_newaZ (pc := 47) O tw_149 (ln_small _) e dX7_init_47 ?_
  have hn : M11.1 ≤ lim := nArr_n e
  obtain ⟨M12, e, h⟩ := bd h
  refine s_putRF (pc := 49) O kc7 (k := 7) rfl (Or.inr ⟨_, rfl⟩) rfl hi rfl tw_678 e dX7_init_49 ?_
  have hn : M12.1 ≤ lim := by rw [wfR_n e]; exact hn
  refine s_aload_n (pc := 52) O dX7_init_52 rfl 0 rfl ?_
  refine s_sipush (pc := 53) O (v := 820) dX7_init_53 (by decide) ?_
  obtain ⟨M13, e, h⟩ := bd h
  refine s_newaI (pc := 56) O tw_94 (ln_small _) e dX7_init_56 ?_
  have hn : M13.1 ≤ lim := nArr_n e
  obtain ⟨M14, e, h⟩ := bd h
  refine s_putRF (pc := 58) O kc7 (k := 8) rfl (Or.inr ⟨_, rfl⟩) rfl hi rfl tw_679 e dX7_init_58 ?_
  have hn : M14.1 ≤ lim := by rw [wfR_n e]; exact hn
  refine s_aload_n (pc := 61) O dX7_init_61 rfl 0 rfl ?_
  refine s_sipush (pc := 62) O (v := 820) dX7_init_62 (by decide) ?_
  obtain ⟨M15, e, h⟩ := bd h
  refine s_newaI (pc := 65) O tw_94 (ln_small _) e dX7_init_65 ?_
  have hn : M15.1 ≤ lim := nArr_n e
  obtain ⟨M16, e, h⟩ := bd h
  refine s_putRF (pc := 67) O kc7 (k := 9) rfl (Or.inr ⟨_, rfl⟩) rfl hi rfl tw_680 e dX7_init_67 ?_
  have hn : M16.1 ≤ lim := by rw [wfR_n e]; exact hn
  refine s_aload_n (pc := 70) O dX7_init_70 rfl 0 rfl ?_
  refine s_sipush (pc := 71) O (v := 820) dX7_init_71 (by decide) ?_
  obtain ⟨M17, e, h⟩ := bd h
  refine s_newaI (pc := 74) O tw_94 (ln_small _) e dX7_init_74 ?_
  have hn : M17.1 ≤ lim := nArr_n e
  obtain ⟨M18, e, h⟩ := bd h
  refine s_putRF (pc := 76) O kc7 (k := 10) rfl (Or.inr ⟨_, rfl⟩) rfl hi rfl tw_681 e dX7_init_76 ?_
  have hn : M18.1 ≤ lim := by rw [wfR_n e]; exact hn
  refine s_aload_n (pc := 79) O dX7_init_79 rfl 0 rfl ?_
  refine s_sipush (pc := 80) O (v := 820) dX7_init_80 (by decide) ?_
  obtain ⟨M19, e, h⟩ := bd h
  refine s_newaI (pc := 83) O tw_94 (ln_small _) e dX7_init_83 ?_
  have hn : M19.1 ≤ lim := nArr_n e
  obtain ⟨M20, e, h⟩ := bd h
  refine s_putRF (pc := 85) O kc7 (k := 11) rfl (Or.inr ⟨_, rfl⟩) rfl hi rfl tw_682 e dX7_init_85 ?_
  have hn : M20.1 ≤ lim := by rw [wfR_n e]; exact hn
  refine s_aload_n (pc := 88) O dX7_init_88 rfl 0 rfl ?_
  refine s_bipush (pc := 89) O (v := 100) dX7_init_89 (by decide) ?_
  obtain ⟨M21, e, h⟩ := bd h
  refine s_newaI (pc := 91) O tw_94 (ln_small _) e dX7_init_91 ?_
  have hn : M21.1 ≤ lim := nArr_n e
  obtain ⟨M22, e, h⟩ := bd h
  refine s_putRF (pc := 93) O kc7 (k := 17) rfl (Or.inr ⟨_, rfl⟩) rfl hi rfl tw_688 e dX7_init_93 ?_
  have hn : M22.1 ≤ lim := by rw [wfR_n e]; exact hn
  refine s_aload_n (pc := 96) O dX7_init_96 rfl 0 rfl ?_
  obtain ⟨M23, e, h⟩ := bd h
  obtain ⟨hg, h⟩ := gd h
  refine s_callVv (pc := 97) O (As := []) kc7 (c_X7_lists (G := X.1) e (Nat.le_of_eq hg.symm)) cy_X7_lists tw_642 tw_644 tw_18 (by decide) rfl (Nat.le_of_eq hg.symm) (by rw [hg]; exact hn) (r_X7_lists e).1 (r_X7_lists e).2 rfl (Nat.le_of_ble_eq_true rfl) dX7_init_97 ?_
  have hn : M23.1 ≤ lim := by rw [hg]; exact hn
  cases h
  exact s_vret (pc := 100) O hK dX7_init_100

def j_X7_reads_70 (M : MM) (p0 : Nat) (s0 : Int32) : Option ((Int32 × MM) ⊕ (MM)) :=
  if s0 = 0 then (some ((.inl (0, M)))) else ((fI M p0 7 14).bind fun v1 => if v1 = 3 then ((fR M p0 7 4).bind fun v2 => (aI M v2 2).bind fun v3 => (waI M v2 2 ((v3 + 1))).bind fun M4 => (f_X7_token M4 p0).bind fun M5 => if M5.1 = M4.1 then (some ((.inr (M5)))) else none) else (some ((.inl (0, M)))))
set_option maxHeartbeats 4000000 in
set_option maxRecDepth 100000 in
theorem g_X7_reads_70 {X : CT} {lim : Nat} {M : MM} {p0 : Nat} {s0 : Int32} (O : OKX X cX7_reads RX7 5 lim 3) (hi : True) (hn : M.1 ≤ lim) {o : (Int32 × MM) ⊕ (MM)} (h : j_X7_reads_70 M p0 s0 = some o) (hK : (KI (fun (q : Int32 × MM) => RTX X (some .boolean) (some (.int q.1)) q.2) (fun (t : MM) => t.1 ≤ lim → WS X t 30 [(0, rf X.1 p0)] [])) o) : WS X M 70 [(0, rf X.1 p0)] [.int s0] := by
  unfold j_X7_reads_70 at h
  refine s_istore_n (pc := 70) O (loc' := [(2, .int s0), (0, rf X.1 p0)]) dX7_reads_70 rfl (by decide) rfl ?_
  refine s_iload_n (pc := 71) O dX7_reads_71 rfl 0 rfl ?_
  refine s_if_eq (pc := 72) O (tgt := 83) dX7_reads_72 (by decide) (fun c => ?_) (fun c => ?_)
  · have h := ifp c h
    refine s_iconst (pc := 83) O (v := 0) dX7_reads_83 (by decide) ?_
    cases h
    exact s_zret (pc := 84) O (by decide) hK dX7_reads_84
  · have h := ifn c h
    refine s_aload_n (pc := 75) O dX7_reads_75 rfl 1 rfl ?_
    obtain ⟨v1, e, h⟩ := bd h
    refine s_getI (pc := 76) O kc7 (k := 14) rfl tw_685 e dX7_reads_76 ?_
    refine s_iconst (pc := 79) O (v := 3) dX7_reads_79 (by decide) ?_
    refine s_icmp_eq (pc := 80) O (tgt := 85) dX7_reads_80 (by decide) (fun c => ?_) (fun c => ?_)
    · have h := ifp c h
      refine s_aload_n (pc := 85) O dX7_reads_85 rfl 1 rfl ?_
      obtain ⟨v2, e, h⟩ := bd h
      refine s_getR (pc := 86) O kc7 (k := 4) rfl tw_675 e dX7_reads_86 ?_
      refine s_iconst (pc := 89) O (v := 2) dX7_reads_89 (by decide) ?_
      refine s_dup2 (pc := 90) O dX7_reads_90 rfl rfl ?_
      obtain ⟨v3, e, h⟩ := bd h
      refine s_aldI (pc := 91) O e dX7_reads_91 ?_
      refine s_iconst (pc := 92) O (v := 1) dX7_reads_92 (by decide) ?_
      refine s_iadd (pc := 93) O dX7_reads_93 ?_
      obtain ⟨M4, e, h⟩ := bd h
      refine s_astI (pc := 94) O e dX7_reads_94 ?_
      have hn : M4.1 ≤ lim := by rw [waI_n e]; exact hn
      refine s_aload_n (pc := 95) O dX7_reads_95 rfl 1 rfl ?_
      obtain ⟨M5, e, h⟩ := bd h
      obtain ⟨hg, h⟩ := gd h
      refine s_callVv (pc := 96) O (As := []) kc7 (c_X7_token (G := X.1) e (Nat.le_of_eq hg.symm)) cy_X7_token tw_743 tw_745 tw_24 (by decide) rfl (Nat.le_of_eq hg.symm) (by rw [hg]; exact hn) (r_X7_token e).1 (r_X7_token e).2 rfl (Nat.le_of_ble_eq_true rfl) dX7_reads_96 ?_
      have hn : M5.1 ≤ lim := by rw [hg]; exact hn
      refine s_goto (pc := 99) O (tgt := 30) dX7_reads_99 (by decide) ?_
      cases h
      exact s_sub (pc := 30) O [1] rfl (hK hn)
    · have h := ifn c h
      refine s_iconst (pc := 83) O (v := 0) dX7_reads_83 (by decide) ?_
      cases h
      exact s_zret (pc := 84) O (by decide) hK dX7_reads_84
def j_X7_reads_69 (M : MM) (p0 : Nat) : Option ((Int32 × MM) ⊕ (MM)) :=
  j_X7_reads_70 M p0 0
set_option maxHeartbeats 4000000 in
set_option maxRecDepth 100000 in
theorem g_X7_reads_69 {X : CT} {lim : Nat} {M : MM} {p0 : Nat} (O : OKX X cX7_reads RX7 5 lim 3) (hi : True) (hn : M.1 ≤ lim) {o : (Int32 × MM) ⊕ (MM)} (h : j_X7_reads_69 M p0 = some o) (hK : (KI (fun (q : Int32 × MM) => RTX X (some .boolean) (some (.int q.1)) q.2) (fun (t : MM) => t.1 ≤ lim → WS X t 30 [(0, rf X.1 p0)] [])) o) : WS X M 69 [(0, rf X.1 p0)] [] := by
  unfold j_X7_reads_69 at h
  refine s_iconst (pc := 69) O (v := 0) dX7_reads_69 (by decide) ?_
  exact s_sub (pc := 70) O [0] rfl (g_X7_reads_70 O hi hn h hK)
def z_X7_reads_30 (M : MM) (p0 : Nat) : Option ((Int32 × MM) ⊕ (MM)) :=
  (fI M p0 7 14).bind fun v1 => if v1 = 0 then (some ((.inl (1, M)))) else ((f_X7_verb M p0).bind fun v2 => if v2 = 0 then ((f_X7_readsWord M p0).bind fun v4 => if v4.2.1 = M.1 then (j_X7_reads_70 v4.2 p0 v4.1) else none) else (if v2 = 1 then ((f_X7_readsShape M p0).bind fun v3 => if v3.2.1 = M.1 then (if v3.1 = 0 then (j_X7_reads_69 v3.2 p0) else (j_X7_reads_70 v3.2 p0 1)) else none) else (j_X7_reads_69 M p0)))
set_option maxHeartbeats 4000000 in
set_option maxRecDepth 100000 in
theorem b_X7_reads_30 {X : CT} {lim : Nat} {M : MM} {p0 : Nat} (O : OKX X cX7_reads RX7 5 lim 3) (hi : True) (hn : M.1 ≤ lim) {o : (Int32 × MM) ⊕ (MM)} (h : z_X7_reads_30 M p0 = some o) (hK : (KI (fun (q : Int32 × MM) => RTX X (some .boolean) (some (.int q.1)) q.2) (fun (t : MM) => t.1 ≤ lim → WS X t 30 [(0, rf X.1 p0)] [])) o) : WS X M 30 [(0, rf X.1 p0)] [] := by
  unfold z_X7_reads_30 at h
  refine s_aload_n (pc := 30) O dX7_reads_30 rfl 0 rfl ?_
  obtain ⟨v1, e, h⟩ := bd h
  refine s_getI (pc := 31) O kc7 (k := 14) rfl tw_685 e dX7_reads_31 ?_
  refine s_if_eq (pc := 34) O (tgt := 102) dX7_reads_34 (by decide) (fun c => ?_) (fun c => ?_)
  · have h := ifp c h
    refine s_iconst (pc := 102) O (v := 1) dX7_reads_102 (by decide) ?_
    cases h
    exact s_zret (pc := 103) O (by decide) hK dX7_reads_103
  · have h := ifn c h
    refine s_aload_n (pc := 37) O dX7_reads_37 rfl 0 rfl ?_
    obtain ⟨v2, e, h⟩ := bd h
    refine s_callVi (pc := 38) O (As := []) kc7 (c_X7_verb (G := X.1) e) cy_X7_verb tw_754 tw_756 tw_26 (by decide) rfl (Nat.le_refl _) hn (r_X7_verb e).1 (r_X7_verb e).2 rfl (Nat.le_of_ble_eq_true rfl) dX7_reads_38 ?_
    refine s_istore_n (pc := 41) O (loc' := [(1, .int v2), (0, rf X.1 p0)]) dX7_reads_41 rfl (by decide) rfl ?_
    refine s_iload_n (pc := 42) O dX7_reads_42 rfl 0 rfl ?_
    refine s_if_ne (pc := 43) O (tgt := 53) dX7_reads_43 (by decide) (fun c => ?_) (fun c => ?_)
    · have h := ifn c h
      refine s_iload_n (pc := 53) O dX7_reads_53 rfl 0 rfl ?_
      refine s_iconst (pc := 54) O (v := 1) dX7_reads_54 (by decide) ?_
      refine s_icmp_ne (pc := 55) O (tgt := 69) dX7_reads_55 (by decide) (fun c => ?_) (fun c => ?_)
      · have h := ifn c h
        exact s_sub (pc := 69) O [1] rfl (g_X7_reads_69 O hi hn h hK)
      · have h := ifp c h
        refine s_aload_n (pc := 58) O dX7_reads_58 rfl 1 rfl ?_
        obtain ⟨v3, e, h⟩ := bd h
        obtain ⟨hg, h⟩ := gd h
        refine s_callVi (pc := 59) O (As := []) kc7 (c_X7_readsShape (G := X.1) e (Nat.le_of_eq hg.symm)) cy_X7_readsShape tw_777 tw_779 tw_31 (by decide) rfl (Nat.le_of_eq hg.symm) (by rw [hg]; exact hn) (r_X7_readsShape e).1 (r_X7_readsShape e).2 rfl (Nat.le_of_ble_eq_true rfl) dX7_reads_59 ?_
        have hn : v3.2.1 ≤ lim := by rw [hg]; exact hn
        refine s_if_eq (pc := 62) O (tgt := 69) dX7_reads_62 (by decide) (fun c => ?_) (fun c => ?_)
        · have h := ifp c h
          exact s_sub (pc := 69) O [1] rfl (g_X7_reads_69 O hi hn h hK)
        · have h := ifn c h
          refine s_iconst (pc := 65) O (v := 1) dX7_reads_65 (by decide) ?_
          refine s_goto (pc := 66) O (tgt := 70) dX7_reads_66 (by decide) ?_
          exact s_sub (pc := 70) O [1] rfl (g_X7_reads_70 O hi hn h hK)
    · have h := ifp c h
      refine s_aload_n (pc := 46) O dX7_reads_46 rfl 1 rfl ?_
      obtain ⟨v4, e, h⟩ := bd h
      obtain ⟨hg, h⟩ := gd h
      refine s_callVi (pc := 47) O (As := []) kc7 (c_X7_readsWord (G := X.1) e (Nat.le_of_eq hg.symm)) cy_X7_readsWord tw_761 tw_763 tw_27 (by decide) rfl (Nat.le_of_eq hg.symm) (by rw [hg]; exact hn) (r_X7_readsWord e).1 (r_X7_readsWord e).2 rfl (Nat.le_of_ble_eq_true rfl) dX7_reads_47 ?_
      have hn : v4.2.1 ≤ lim := by rw [hg]; exact hn
      refine s_goto (pc := 50) O (tgt := 70) dX7_reads_50 (by decide) ?_
      exact s_sub (pc := 70) O [1] rfl (g_X7_reads_70 O hi hn h hK)
set_option maxHeartbeats 4000000 in
set_option maxRecDepth 100000 in
theorem l_X7_reads_30 {X : CT} {lim : Nat} {M : MM} {p0 : Nat} (O : OKX X cX7_reads RX7 5 lim 3) (hi : True) (hn : M.1 ≤ lim) {o : Int32 × MM} {n : Nat} (h : lp (fun t => z_X7_reads_30 t p0) n (M) = some o) (hK : (fun (q : Int32 × MM) => RTX X (some .boolean) (some (.int q.1)) q.2) o) : WS X M 30 [(0, rf X.1 p0)] [] := by
  refine lp_ind (P := fun (o : Int32 × MM) (t : MM) => t.1 ≤ lim → (fun (q : Int32 × MM) => RTX X (some .boolean) (some (.int q.1)) q.2) o → WS X t 30 [(0, rf X.1 p0)] []) (fun t o hs hn hK => ?_) n (M) o h hn hK
  rcases hs with h | ⟨u, h, hu⟩
  · exact b_X7_reads_30 O hi hn h hK
  · exact b_X7_reads_30 O hi hn h (show KI _ _ (.inr u) from fun hn => hu hn hK)
def z_X7_reads_2 (M : MM) (p0 : Nat) (a1 : Int32) : Option ((Int32 × MM) ⊕ (Int32 × MM)) :=
  if (110 : Int32) ≤ a1 then (((wfI M p0 7 13 0).bind fun M1 => (f_X7_token M1 p0).bind fun M2 => if M2.1 = M1.1 then (lp (fun t => z_X7_reads_30 t p0) FU (M2)) else none).map .inl) else ((fR M p0 7 4).bind fun v3 => (waI M v3 a1 0).bind fun M4 => some ((.inr ((a1 + 1), M4))))
set_option maxHeartbeats 4000000 in
set_option maxRecDepth 100000 in
theorem b_X7_reads_2 {X : CT} {lim : Nat} {M : MM} {p0 : Nat} {a1 : Int32} (O : OKX X cX7_reads RX7 5 lim 3) (hi : True) (hn : M.1 ≤ lim) {o : (Int32 × MM) ⊕ (Int32 × MM)} (h : z_X7_reads_2 M p0 a1 = some o) (hK : (KI (fun (q : Int32 × MM) => RTX X (some .boolean) (some (.int q.1)) q.2) (fun (t : Int32 × MM) => t.2.1 ≤ lim → WS X t.2 2 [(0, rf X.1 p0), (1, .int t.1)] [])) o) : WS X M 2 [(0, rf X.1 p0), (1, .int a1)] [] := by
  unfold z_X7_reads_2 at h
  refine s_iload_n (pc := 2) O dX7_reads_2 rfl 1 rfl ?_
  refine s_bipush (pc := 3) O (v := 110) dX7_reads_3 (by decide) ?_
  refine s_icmp_ge (pc := 5) O (tgt := 21) dX7_reads_5 (by decide) (fun c => ?_) (fun c => ?_)
  · have h := ifp c h
    obtain ⟨q0, hq0, ho0⟩ := mpi h; subst ho0; replace h := hq0
    refine s_aload_n (pc := 21) O dX7_reads_21 rfl 0 rfl ?_
    refine s_iconst (pc := 22) O (v := 0) dX7_reads_22 (by decide) ?_
    obtain ⟨M1, e, h⟩ := bd h
    refine s_putI (pc := 23) O kc7 (k := 13) rfl rfl rfl tw_684 e dX7_reads_23 ?_
    have hn : M1.1 ≤ lim := by rw [wfI_n e]; exact hn
    refine s_aload_n (pc := 26) O dX7_reads_26 rfl 0 rfl ?_
    obtain ⟨M2, e, h⟩ := bd h
    obtain ⟨hg, h⟩ := gd h
    refine s_callVv (pc := 27) O (As := []) kc7 (c_X7_token (G := X.1) e (Nat.le_of_eq hg.symm)) cy_X7_token tw_743 tw_745 tw_24 (by decide) rfl (Nat.le_of_eq hg.symm) (by rw [hg]; exact hn) (r_X7_token e).1 (r_X7_token e).2 rfl (Nat.le_of_ble_eq_true rfl) dX7_reads_27 ?_
    have hn : M2.1 ≤ lim := by rw [hg]; exact hn
    exact s_sub (pc := 30) O [0] rfl (l_X7_reads_30 O hi hn h hK)
  · have h := ifn c h
    refine s_aload_n (pc := 8) O dX7_reads_8 rfl 0 rfl ?_
    obtain ⟨v3, e, h⟩ := bd h
    refine s_getR (pc := 9) O kc7 (k := 4) rfl tw_675 e dX7_reads_9 ?_
    refine s_iload_n (pc := 12) O dX7_reads_12 rfl 1 rfl ?_
    refine s_iconst (pc := 13) O (v := 0) dX7_reads_13 (by decide) ?_
    obtain ⟨M4, e, h⟩ := bd h
    refine s_astI (pc := 14) O e dX7_reads_14 ?_
    have hn : M4.1 ≤ lim := by rw [waI_n e]; exact hn
    refine s_iinc (pc := 15) O (v := (a1 + 1)) (loc' := [(1, .int (a1 + 1)), (0, rf X.1 p0)]) dX7_reads_15 1 rfl rfl (by decide) rfl ?_
    refine s_goto (pc := 18) O (tgt := 2) dX7_reads_18 (by decide) ?_
    cases h
    exact s_sub (pc := 2) O [1, 0] rfl (hK hn)
set_option maxHeartbeats 4000000 in
set_option maxRecDepth 100000 in
theorem l_X7_reads_2 {X : CT} {lim : Nat} {M : MM} {p0 : Nat} {a1 : Int32} (O : OKX X cX7_reads RX7 5 lim 3) (hi : True) (hn : M.1 ≤ lim) {o : Int32 × MM} {n : Nat} (h : lp (fun t => z_X7_reads_2 t.2 p0 t.1) n (a1, M) = some o) (hK : (fun (q : Int32 × MM) => RTX X (some .boolean) (some (.int q.1)) q.2) o) : WS X M 2 [(0, rf X.1 p0), (1, .int a1)] [] := by
  refine lp_ind (P := fun (o : Int32 × MM) (t : Int32 × MM) => t.2.1 ≤ lim → (fun (q : Int32 × MM) => RTX X (some .boolean) (some (.int q.1)) q.2) o → WS X t.2 2 [(0, rf X.1 p0), (1, .int t.1)] []) (fun t o hs hn hK => ?_) n (a1, M) o h hn hK
  rcases hs with h | ⟨u, h, hu⟩
  · exact b_X7_reads_2 O hi hn h hK
  · exact b_X7_reads_2 O hi hn h (show KI _ _ (.inr u) from fun hn => hu hn hK)
def f_X7_reads (M : MM) (p0 : Nat) : Option (Int32 × MM) :=
  if p0 < M.1 ∧ kd p0 = 7 then (lp (fun t => z_X7_reads_2 t.2 p0 t.1) FU (0, M)) else none
theorem r_X7_reads {M : MM} {p0 : Nat} {o : Int32 × MM} (h : f_X7_reads M p0 = some o) : p0 < M.1 ∧ kd p0 = 7 := by
  unfold f_X7_reads at h
  exact (gd h).1
theorem cy_X7_reads : CallY yX7_reads cX7_reads 3 (some .boolean) 0 := ⟨by decide +kernel, tw_742, tw_47, by decide⟩
set_option maxHeartbeats 4000000 in
set_option maxRecDepth 100000 in
theorem c_X7_reads {G : GG} {M : MM} {p0 : Nat} {r : Int32} {M' : MM} (h : f_X7_reads M p0 = some (r, M')) (hn : M.1 ≤ M'.1) : Ct G yX7_reads cX7_reads 3 (some .boolean) 5 [rf G p0] M (some (.int r)) M' := by
  refine ct_of (by decide +kernel) (Nat.le_of_ble_eq_true rfl) (fun X hX O hK hi0 => ?_)
  subst hX
  obtain ⟨lim, hlim⟩ : ∃ z, z = M'.1 := ⟨_, rfl⟩
  rw [← hlim] at O hn
  replace O : OKX X cX7_reads RX7 5 lim 3 := O
  have hi : True := trivial
  show WS X M 0 [(0, rf X.1 p0)] []
  replace hK : (fun (q : Int32 × MM) => RTX X (some .boolean) (some (.int q.1)) q.2) (r, M') := hK
  generalize (r, M') = o at h hK
  unfold f_X7_reads at h
  obtain ⟨hg0, h⟩ := gd h
  refine s_iconst (pc := 0) O (v := 0) dX7_reads_0 (by decide) ?_
  refine s_istore_n (pc := 1) O (loc' := [(1, .int 0), (0, rf X.1 p0)]) dX7_reads_1 rfl (by decide) rfl ?_
  exact s_sub (pc := 2) O [1, 0] rfl (l_X7_reads_2 O hi hn h hK)

def z_X7_ring_32 (M : MM) (p0 : Nat) (a3 : Int32) (a4 : Int32) (a5 : Int32) : Option (((Int32 × MM) ⊕ (Int32)) ⊕ (Int32)) :=
  if a4 ≤ a5 then (some ((.inl (.inr ((a4 + 1)))))) else ((fR M p0 7 17).bind fun v1 => (aI M v1 a5).bind fun v2 => (fR M p0 7 17).bind fun v3 => (aI M v3 a4).bind fun v4 => if v2 = v4 then (some ((.inl (.inl (a4, M))))) else (some ((.inr ((a5 + 1))))))
set_option maxHeartbeats 4000000 in
set_option maxRecDepth 100000 in
theorem b_X7_ring_32 {X : CT} {lim : Nat} {M : MM} {p0 : Nat} {a3 : Int32} {a4 : Int32} {a5 : Int32} (O : OKX X cX7_ring RX7 5 lim 6) (hi : True) (hn : M.1 ≤ lim) {o : ((Int32 × MM) ⊕ (Int32)) ⊕ (Int32)} (h : z_X7_ring_32 M p0 a3 a4 a5 = some o) (hK : (KI (KI (fun (q : Int32 × MM) => RTX X (some .int) (some (.int q.1)) q.2) (fun (t : Int32) => WS X M 23 [(0, rf X.1 p0), (3, .int a3), (4, .int t)] [])) (fun (t : Int32) => WS X M 32 [(0, rf X.1 p0), (3, .int a3), (4, .int a4), (5, .int t)] [])) o) : WS X M 32 [(0, rf X.1 p0), (3, .int a3), (4, .int a4), (5, .int a5)] [] := by
  unfold z_X7_ring_32 at h
  refine s_iload (pc := 32) O dX7_ring_32 3 rfl ?_
  refine s_iload (pc := 34) O dX7_ring_34 2 rfl ?_
  refine s_icmp_ge (pc := 36) O (tgt := 65) dX7_ring_36 (by decide) (fun c => ?_) (fun c => ?_)
  · have h := ifp c h
    refine s_iinc (pc := 65) O (v := (a4 + 1)) (loc' := [(4, .int (a4 + 1)), (0, rf X.1 p0), (3, .int a3), (5, .int a5)]) dX7_ring_65 2 rfl rfl (by decide) rfl ?_
    refine s_goto (pc := 68) O (tgt := 23) dX7_ring_68 (by decide) ?_
    cases h
    exact s_sub (pc := 23) O [1, 2, 0] rfl hK
  · have h := ifn c h
    refine s_aload_n (pc := 39) O dX7_ring_39 rfl 0 rfl ?_
    obtain ⟨v1, e, h⟩ := bd h
    refine s_getR (pc := 40) O kc7 (k := 17) rfl tw_688 e dX7_ring_40 ?_
    refine s_iload (pc := 43) O dX7_ring_43 3 rfl ?_
    obtain ⟨v2, e, h⟩ := bd h
    refine s_aldI (pc := 45) O e dX7_ring_45 ?_
    refine s_aload_n (pc := 46) O dX7_ring_46 rfl 0 rfl ?_
    obtain ⟨v3, e, h⟩ := bd h
    refine s_getR (pc := 47) O kc7 (k := 17) rfl tw_688 e dX7_ring_47 ?_
    refine s_iload (pc := 50) O dX7_ring_50 2 rfl ?_
    obtain ⟨v4, e, h⟩ := bd h
    refine s_aldI (pc := 52) O e dX7_ring_52 ?_
    refine s_icmp_ne (pc := 53) O (tgt := 59) dX7_ring_53 (by decide) (fun c => ?_) (fun c => ?_)
    · have h := ifn c h
      refine s_iinc (pc := 59) O (v := (a5 + 1)) (loc' := [(5, .int (a5 + 1)), (0, rf X.1 p0), (3, .int a3), (4, .int a4)]) dX7_ring_59 3 rfl rfl (by decide) rfl ?_
      refine s_goto (pc := 62) O (tgt := 32) dX7_ring_62 (by decide) ?_
      cases h
      exact s_sub (pc := 32) O [1, 2, 3, 0] rfl hK
    · have h := ifp c h
      refine s_iload (pc := 56) O dX7_ring_56 2 rfl ?_
      cases h
      exact s_iret (pc := 58) O hK dX7_ring_58
set_option maxHeartbeats 4000000 in
set_option maxRecDepth 100000 in
theorem l_X7_ring_32 {X : CT} {lim : Nat} {M : MM} {p0 : Nat} {a3 : Int32} {a4 : Int32} {a5 : Int32} (O : OKX X cX7_ring RX7 5 lim 6) (hi : True) (hn : M.1 ≤ lim) {o : (Int32 × MM) ⊕ (Int32)} {n : Nat} (h : lp (fun t => z_X7_ring_32 M p0 a3 a4 t) n (a5) = some o) (hK : (KI (fun (q : Int32 × MM) => RTX X (some .int) (some (.int q.1)) q.2) (fun (t : Int32) => WS X M 23 [(0, rf X.1 p0), (3, .int a3), (4, .int t)] [])) o) : WS X M 32 [(0, rf X.1 p0), (3, .int a3), (4, .int a4), (5, .int a5)] [] := by
  refine lp_ind (P := fun (o : (Int32 × MM) ⊕ (Int32)) (t : Int32) => (KI (fun (q : Int32 × MM) => RTX X (some .int) (some (.int q.1)) q.2) (fun (t : Int32) => WS X M 23 [(0, rf X.1 p0), (3, .int a3), (4, .int t)] [])) o → WS X M 32 [(0, rf X.1 p0), (3, .int a3), (4, .int a4), (5, .int t)] []) (fun t o hs  hK => ?_) n (a5) o h  hK
  rcases hs with h | ⟨u, h, hu⟩
  · exact b_X7_ring_32 O hi hn h hK
  · exact b_X7_ring_32 O hi hn h (show KI _ _ (.inr u) from hu hK)
def z_X7_ring_23 (M : MM) (p0 : Nat) (a3 : Int32) (a4 : Int32) : Option ((Int32 × MM) ⊕ (Int32)) :=
  if a3 ≤ a4 then (some ((.inl ((-9), M)))) else (lp (fun t => z_X7_ring_32 M p0 a3 a4 t) FU (0))
set_option maxHeartbeats 4000000 in
set_option maxRecDepth 100000 in
theorem b_X7_ring_23 {X : CT} {lim : Nat} {M : MM} {p0 : Nat} {a3 : Int32} {a4 : Int32} (O : OKX X cX7_ring RX7 5 lim 6) (hi : True) (hn : M.1 ≤ lim) {o : (Int32 × MM) ⊕ (Int32)} (h : z_X7_ring_23 M p0 a3 a4 = some o) (hK : (KI (fun (q : Int32 × MM) => RTX X (some .int) (some (.int q.1)) q.2) (fun (t : Int32) => WS X M 23 [(0, rf X.1 p0), (3, .int a3), (4, .int t)] [])) o) : WS X M 23 [(0, rf X.1 p0), (3, .int a3), (4, .int a4)] [] := by
  unfold z_X7_ring_23 at h
  refine s_iload (pc := 23) O dX7_ring_23 2 rfl ?_
  refine s_iload_n (pc := 25) O dX7_ring_25 rfl 1 rfl ?_
  refine s_icmp_ge (pc := 26) O (tgt := 71) dX7_ring_26 (by decide) (fun c => ?_) (fun c => ?_)
  · have h := ifp c h
    refine s_bipush (pc := 71) O (v := (-9)) dX7_ring_71 (by decide) ?_
    cases h
    exact s_iret (pc := 73) O hK dX7_ring_73
  · have h := ifn c h
    refine s_iconst (pc := 29) O (v := 0) dX7_ring_29 (by decide) ?_
    refine s_istore (pc := 30) O (loc' := [(5, .int 0), (0, rf X.1 p0), (3, .int a3), (4, .int a4)]) dX7_ring_30 (by decide) rfl ?_
    exact s_sub (pc := 32) O [1, 2, 3, 0] rfl (l_X7_ring_32 O hi hn h hK)
set_option maxHeartbeats 4000000 in
set_option maxRecDepth 100000 in
theorem l_X7_ring_23 {X : CT} {lim : Nat} {M : MM} {p0 : Nat} {a3 : Int32} {a4 : Int32} (O : OKX X cX7_ring RX7 5 lim 6) (hi : True) (hn : M.1 ≤ lim) {o : Int32 × MM} {n : Nat} (h : lp (fun t => z_X7_ring_23 M p0 a3 t) n (a4) = some o) (hK : (fun (q : Int32 × MM) => RTX X (some .int) (some (.int q.1)) q.2) o) : WS X M 23 [(0, rf X.1 p0), (3, .int a3), (4, .int a4)] [] := by
  refine lp_ind (P := fun (o : Int32 × MM) (t : Int32) => (fun (q : Int32 × MM) => RTX X (some .int) (some (.int q.1)) q.2) o → WS X M 23 [(0, rf X.1 p0), (3, .int a3), (4, .int t)] []) (fun t o hs  hK => ?_) n (a4) o h  hK
  rcases hs with h | ⟨u, h, hu⟩
  · exact b_X7_ring_23 O hi hn h hK
  · exact b_X7_ring_23 O hi hn h (show KI _ _ (.inr u) from hu hK)
def f_X7_ring (M : MM) (p0 : Nat) (a1 : Int32) : Option (Int32 × MM) :=
  if p0 < M.1 ∧ kd p0 = 7 then ((f_X7_placeOf M p0 a1).bind fun v1 => if v1 = (-9) then (some (((-1), M))) else ((f_X7_lays M p0 v1).bind fun v2 => if v2.2.1 = M.1 then (lp (fun t => z_X7_ring_23 v2.2 p0 v2.1 t) FU (1)) else none)) else none
theorem r_X7_ring {M : MM} {p0 : Nat} {a1 : Int32} {o : Int32 × MM} (h : f_X7_ring M p0 a1 = some o) : p0 < M.1 ∧ kd p0 = 7 := by
  unfold f_X7_ring at h
  exact (gd h).1
theorem cy_X7_ring : CallY yX7_ring cX7_ring 6 (some .int) 1 := ⟨by decide +kernel, tw_870, tw_47, by decide⟩
set_option maxHeartbeats 4000000 in
set_option maxRecDepth 100000 in
theorem c_X7_ring {G : GG} {M : MM} {p0 : Nat} {a1 : Int32} {r : Int32} {M' : MM} (h : f_X7_ring M p0 a1 = some (r, M')) (hn : M.1 ≤ M'.1) : Ct G yX7_ring cX7_ring 6 (some .int) 5 [rf G p0, .int a1] M (some (.int r)) M' := by
  refine ct_of (by decide +kernel) (Nat.le_of_ble_eq_true rfl) (fun X hX O hK hi0 => ?_)
  subst hX
  obtain ⟨lim, hlim⟩ : ∃ z, z = M'.1 := ⟨_, rfl⟩
  rw [← hlim] at O hn
  replace O : OKX X cX7_ring RX7 5 lim 6 := O
  have hi : True := trivial
  show WS X M 0 [(0, rf X.1 p0), (1, .int a1)] []
  replace hK : (fun (q : Int32 × MM) => RTX X (some .int) (some (.int q.1)) q.2) (r, M') := hK
  generalize (r, M') = o at h hK
  unfold f_X7_ring at h
  obtain ⟨hg0, h⟩ := gd h
  refine s_aload_n (pc := 0) O dX7_ring_0 rfl 0 rfl ?_
  refine s_iload_n (pc := 1) O dX7_ring_1 rfl 1 rfl ?_
  obtain ⟨v1, e, h⟩ := bd h
  refine s_callVi (pc := 2) O (As := [.int a1]) kc7 (c_X7_placeOf (G := X.1) e) cy_X7_placeOf tw_801 tw_803 tw_33 (by decide) rfl (Nat.le_refl _) hn (r_X7_placeOf e).1 (r_X7_placeOf e).2 rfl (Nat.le_of_ble_eq_true rfl) dX7_ring_2 ?_
  refine s_istore_n (pc := 5) O (loc' := [(2, .int v1), (0, rf X.1 p0), (1, .int a1)]) dX7_ring_5 rfl (by decide) rfl ?_
  refine s_iload_n (pc := 6) O dX7_ring_6 rfl 0 rfl ?_
  refine s_bipush (pc := 7) O (v := (-9)) dX7_ring_7 (by decide) ?_
  refine s_icmp_ne (pc := 9) O (tgt := 14) dX7_ring_9 (by decide) (fun c => ?_) (fun c => ?_)
  · have h := ifn c h
    refine s_aload_n (pc := 14) O dX7_ring_14 rfl 1 rfl ?_
    refine s_iload_n (pc := 15) O dX7_ring_15 rfl 0 rfl ?_
    obtain ⟨v2, e, h⟩ := bd h
    obtain ⟨hg, h⟩ := gd h
    refine s_callVi (pc := 16) O (As := [.int v1]) kc7 (c_X7_lays (G := X.1) e (Nat.le_of_eq hg.symm)) cy_X7_lays tw_863 tw_865 tw_36 (by decide) rfl (Nat.le_of_eq hg.symm) (by rw [hg]; exact hn) (r_X7_lays e).1 (r_X7_lays e).2 rfl (Nat.le_of_ble_eq_true rfl) dX7_ring_16 ?_
    have hn : v2.2.1 ≤ lim := by rw [hg]; exact hn
    refine s_istore_n (pc := 19) O (loc' := [(3, .int v2.1), (2, .int v1), (0, rf X.1 p0), (1, .int a1)]) dX7_ring_19 rfl (by decide) rfl ?_
    refine s_iconst (pc := 20) O (v := 1) dX7_ring_20 (by decide) ?_
    refine s_istore (pc := 21) O (loc' := [(4, .int 1), (3, .int v2.1), (2, .int v1), (0, rf X.1 p0), (1, .int a1)]) dX7_ring_21 (by decide) rfl ?_
    exact s_sub (pc := 23) O [3, 1, 0] rfl (l_X7_ring_23 O hi hn h hK)
  · have h := ifp c h
    refine s_iconst (pc := 12) O (v := (-1)) dX7_ring_12 (by decide) ?_
    cases h
    exact s_iret (pc := 13) O hK dX7_ring_13

def z_X7_tongue_17 (M : MM) (p0 : Nat) (a1 : Int32) : Option ((Int32 × MM) ⊕ (Int32 × MM)) :=
  if (110 : Int32) ≤ a1 then (((fR M p0 7 5).bind fun v1 => (waI M v1 0 0).bind fun M2 => (fR M2 p0 7 7).bind fun v3 => (waZ M2 v3 0 0).bind fun M4 => (fR M4 p0 7 7).bind fun v5 => (waZ M4 v5 1 0).bind fun M6 => (wfI M6 p0 7 2 0).bind fun M7 => (f_X7_lists M7 p0).bind fun M8 => if M8.1 = M7.1 then ((fR M8 p0 7 3).bind fun v9 => (aI M8 v9 2).bind fun v10 => some ((v10, M8))) else none).map .inl) else ((fR M p0 7 3).bind fun v11 => (fR M p0 7 4).bind fun v12 => (aI M v12 a1).bind fun v13 => (waI M v11 a1 v13).bind fun M14 => some ((.inr ((a1 + 1), M14))))
set_option maxHeartbeats 4000000 in
set_option maxRecDepth 100000 in
theorem b_X7_tongue_17 {X : CT} {lim : Nat} {M : MM} {p0 : Nat} {a1 : Int32} (O : OKX X cX7_tongue RX7 6 lim 2) (hi : True) (hn : M.1 ≤ lim) {o : (Int32 × MM) ⊕ (Int32 × MM)} (h : z_X7_tongue_17 M p0 a1 = some o) (hK : (KI (fun (q : Int32 × MM) => RTX X (some .int) (some (.int q.1)) q.2) (fun (t : Int32 × MM) => t.2.1 ≤ lim → WS X t.2 17 [(0, rf X.1 p0), (1, .int t.1)] [])) o) : WS X M 17 [(0, rf X.1 p0), (1, .int a1)] [] := by
  unfold z_X7_tongue_17 at h
  refine s_iload_n (pc := 17) O dX7_tongue_17 rfl 1 rfl ?_
  refine s_bipush (pc := 18) O (v := 110) dX7_tongue_18 (by decide) ?_
  refine s_icmp_ge (pc := 20) O (tgt := 41) dX7_tongue_20 (by decide) (fun c => ?_) (fun c => ?_)
  · have h := ifp c h
    obtain ⟨q0, hq0, ho0⟩ := mpi h; subst ho0; replace h := hq0
    refine s_aload_n (pc := 41) O dX7_tongue_41 rfl 0 rfl ?_
    obtain ⟨v1, e, h⟩ := bd h
    refine s_getR (pc := 42) O kc7 (k := 5) rfl tw_676 e dX7_tongue_42 ?_
    refine s_iconst (pc := 45) O (v := 0) dX7_tongue_45 (by decide) ?_
    refine s_iconst (pc := 46) O (v := 0) dX7_tongue_46 (by decide) ?_
    obtain ⟨M2, e, h⟩ := bd h
    refine s_astI (pc := 47) O e dX7_tongue_47 ?_
    have hn : M2.1 ≤ lim := by rw [waI_n e]; exact hn
    refine s_aload_n (pc := 48) O dX7_tongue_48 rfl 0 rfl ?_
    obtain ⟨v3, e, h⟩ := bd h
    refine s_getR (pc := 49) O kc7 (k := 7) rfl tw_678 e dX7_tongue_49 ?_
    refine s_iconst (pc := 52) O (v := 0) dX7_tongue_52 (by decide) ?_
    refine s_iconst (pc := 53) O (v := 0) dX7_tongue_53 (by decide) ?_
    obtain ⟨M4, e, h⟩ := bd h
    refine s_astZ (pc := 54) O e dX7_tongue_54 ?_
    have hn : M4.1 ≤ lim := by rw [waZ_n e]; exact hn
    refine s_aload_n (pc := 55) O dX7_tongue_55 rfl 0 rfl ?_
    obtain ⟨v5, e, h⟩ := bd h
    refine s_getR (pc := 56) O kc7 (k := 7) rfl tw_678 e dX7_tongue_56 ?_
    refine s_iconst (pc := 59) O (v := 1) dX7_tongue_59 (by decide) ?_
    refine s_iconst (pc := 60) O (v := 0) dX7_tongue_60 (by decide) ?_
    obtain ⟨M6, e, h⟩ := bd h
    refine s_astZ (pc := 61) O e dX7_tongue_61 ?_
    have hn : M6.1 ≤ lim := by rw [waZ_n e]; exact hn
    refine s_aload_n (pc := 62) O dX7_tongue_62 rfl 0 rfl ?_
    refine s_iconst (pc := 63) O (v := 0) dX7_tongue_63 (by decide) ?_
    obtain ⟨M7, e, h⟩ := bd h
    refine s_putI (pc := 64) O kc7 (k := 2) rfl rfl rfl tw_673 e dX7_tongue_64 ?_
    have hn : M7.1 ≤ lim := by rw [wfI_n e]; exact hn
    refine s_aload_n (pc := 67) O dX7_tongue_67 rfl 0 rfl ?_
    obtain ⟨M8, e, h⟩ := bd h
    obtain ⟨hg, h⟩ := gd h
    refine s_callVv (pc := 68) O (As := []) kc7 (c_X7_lists (G := X.1) e (Nat.le_of_eq hg.symm)) cy_X7_lists tw_642 tw_644 tw_18 (by decide) rfl (Nat.le_of_eq hg.symm) (by rw [hg]; exact hn) (r_X7_lists e).1 (r_X7_lists e).2 rfl (Nat.le_of_ble_eq_true rfl) dX7_tongue_68 ?_
    have hn : M8.1 ≤ lim := by rw [hg]; exact hn
    refine s_aload_n (pc := 71) O dX7_tongue_71 rfl 0 rfl ?_
    obtain ⟨v9, e, h⟩ := bd h
    refine s_getR (pc := 72) O kc7 (k := 3) rfl tw_674 e dX7_tongue_72 ?_
    refine s_iconst (pc := 75) O (v := 2) dX7_tongue_75 (by decide) ?_
    obtain ⟨v10, e, h⟩ := bd h
    refine s_aldI (pc := 76) O e dX7_tongue_76 ?_
    replace hK := kcast (K := (fun (q : Int32 × MM) => RTX X (some .int) (some (.int q.1)) q.2)) h hK
    exact s_iret (pc := 77) O hK dX7_tongue_77
  · have h := ifn c h
    refine s_aload_n (pc := 23) O dX7_tongue_23 rfl 0 rfl ?_
    obtain ⟨v11, e, h⟩ := bd h
    refine s_getR (pc := 24) O kc7 (k := 3) rfl tw_674 e dX7_tongue_24 ?_
    refine s_iload_n (pc := 27) O dX7_tongue_27 rfl 1 rfl ?_
    refine s_aload_n (pc := 28) O dX7_tongue_28 rfl 0 rfl ?_
    obtain ⟨v12, e, h⟩ := bd h
    refine s_getR (pc := 29) O kc7 (k := 4) rfl tw_675 e dX7_tongue_29 ?_
    refine s_iload_n (pc := 32) O dX7_tongue_32 rfl 1 rfl ?_
    obtain ⟨v13, e, h⟩ := bd h
    refine s_aldI (pc := 33) O e dX7_tongue_33 ?_
    obtain ⟨M14, e, h⟩ := bd h
    refine s_astI (pc := 34) O e dX7_tongue_34 ?_
    have hn : M14.1 ≤ lim := by rw [waI_n e]; exact hn
    refine s_iinc (pc := 35) O (v := (a1 + 1)) (loc' := [(1, .int (a1 + 1)), (0, rf X.1 p0)]) dX7_tongue_35 1 rfl rfl (by decide) rfl ?_
    refine s_goto (pc := 38) O (tgt := 17) dX7_tongue_38 (by decide) ?_
    replace hK := kcast (K := (KI (fun (q : Int32 × MM) => RTX X (some .int) (some (.int q.1)) q.2) (fun (t : Int32 × MM) => t.2.1 ≤ lim → WS X t.2 17 [(0, rf X.1 p0), (1, .int t.1)] []))) h hK
    exact s_sub (pc := 17) O [1, 0] rfl (hK hn)
set_option maxHeartbeats 4000000 in
set_option maxRecDepth 100000 in
theorem l_X7_tongue_17 {X : CT} {lim : Nat} {M : MM} {p0 : Nat} {a1 : Int32} (O : OKX X cX7_tongue RX7 6 lim 2) (hi : True) (hn : M.1 ≤ lim) {o : Int32 × MM} {n : Nat} (h : lp (fun t => z_X7_tongue_17 t.2 p0 t.1) n (a1, M) = some o) (hK : (fun (q : Int32 × MM) => RTX X (some .int) (some (.int q.1)) q.2) o) : WS X M 17 [(0, rf X.1 p0), (1, .int a1)] [] := by
  refine lp_ind (P := fun (o : Int32 × MM) (t : Int32 × MM) => t.2.1 ≤ lim → (fun (q : Int32 × MM) => RTX X (some .int) (some (.int q.1)) q.2) o → WS X t.2 17 [(0, rf X.1 p0), (1, .int t.1)] []) (fun t o hs hn hK => ?_) n (a1, M) o h hn hK
  rcases hs with h | ⟨u, h, hu⟩
  · exact b_X7_tongue_17 O hi hn h hK
  · exact b_X7_tongue_17 O hi hn h (show KI _ _ (.inr u) from fun hn => hu hn hK)
def f_X7_tongue (M : MM) (p0 : Nat) : Option (Int32 × MM) :=
  if p0 < M.1 ∧ kd p0 = 7 then ((f_X7_reads M p0).bind fun v1 => if v1.2.1 = M.1 then (if v1.1 = 0 then ((fI v1.2 p0 7 15).bind fun v2 => some ((((-10) - v2), v1.2))) else (lp (fun t => z_X7_tongue_17 t.2 p0 t.1) FU (0, v1.2))) else none) else none
theorem r_X7_tongue {M : MM} {p0 : Nat} {o : Int32 × MM} (h : f_X7_tongue M p0 = some o) : p0 < M.1 ∧ kd p0 = 7 := by
  unfold f_X7_tongue at h
  exact (gd h).1
theorem cy_X7_tongue : CallY yX7_tongue cX7_tongue 2 (some .int) 0 := ⟨by decide +kernel, tw_738, tw_47, by decide⟩
set_option maxHeartbeats 4000000 in
set_option maxRecDepth 100000 in
theorem c_X7_tongue {G : GG} {M : MM} {p0 : Nat} {r : Int32} {M' : MM} (h : f_X7_tongue M p0 = some (r, M')) (hn : M.1 ≤ M'.1) : Ct G yX7_tongue cX7_tongue 2 (some .int) 6 [rf G p0] M (some (.int r)) M' := by
  refine ct_of (by decide +kernel) (Nat.le_of_ble_eq_true rfl) (fun X hX O hK hi0 => ?_)
  subst hX
  obtain ⟨lim, hlim⟩ : ∃ z, z = M'.1 := ⟨_, rfl⟩
  rw [← hlim] at O hn
  replace O : OKX X cX7_tongue RX7 6 lim 2 := O
  have hi : True := trivial
  show WS X M 0 [(0, rf X.1 p0)] []
  replace hK : (fun (q : Int32 × MM) => RTX X (some .int) (some (.int q.1)) q.2) (r, M') := hK
  generalize (r, M') = o at h hK
  unfold f_X7_tongue at h
  obtain ⟨hg0, h⟩ := gd h
  refine s_aload_n (pc := 0) O dX7_tongue_0 rfl 0 rfl ?_
  obtain ⟨v1, e, h⟩ := bd h
  obtain ⟨hg, h⟩ := gd h
  refine s_callVi (pc := 1) O (As := []) kc7 (c_X7_reads (G := X.1) e (Nat.le_of_eq hg.symm)) cy_X7_reads tw_739 tw_741 tw_23 (by decide) rfl (Nat.le_of_eq hg.symm) (by rw [hg]; exact hn) (r_X7_reads e).1 (r_X7_reads e).2 rfl (Nat.le_of_ble_eq_true rfl) dX7_tongue_1 ?_
  have hn : v1.2.1 ≤ lim := by rw [hg]; exact hn
  refine s_if_ne (pc := 4) O (tgt := 15) dX7_tongue_4 (by decide) (fun c => ?_) (fun c => ?_)
  · have h := ifn c h
    refine s_iconst (pc := 15) O (v := 0) dX7_tongue_15 (by decide) ?_
    refine s_istore_n (pc := 16) O (loc' := [(1, .int 0), (0, rf X.1 p0)]) dX7_tongue_16 rfl (by decide) rfl ?_
    exact s_sub (pc := 17) O [1, 0] rfl (l_X7_tongue_17 O hi hn h hK)
  · have h := ifp c h
    refine s_bipush (pc := 7) O (v := (-10)) dX7_tongue_7 (by decide) ?_
    refine s_aload_n (pc := 9) O dX7_tongue_9 rfl 0 rfl ?_
    obtain ⟨v2, e, h⟩ := bd h
    refine s_getI (pc := 10) O kc7 (k := 15) rfl tw_686 e dX7_tongue_10 ?_
    refine s_isub (pc := 13) O dX7_tongue_13 ?_
    replace hK := kcast (K := (fun (q : Int32 × MM) => RTX X (some .int) (some (.int q.1)) q.2)) h hK
    exact s_iret (pc := 14) O hK dX7_tongue_14

