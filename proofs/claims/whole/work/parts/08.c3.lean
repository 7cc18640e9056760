def j_X1_fill_148 (M : MM) (p0 : Nat) (a2 : Int32) : Option ((MM) ⊕ (Int32 × MM)) :=
  some ((.inr ((a2 + 1), M)))
set_option maxHeartbeats 4000000 in
set_option maxRecDepth 100000 in
theorem g_X1_fill_148 {X : CT} {lim : Nat} {M : MM} {p0 : Nat} {a2 : Int32} (O : OKX X cX1_fill RX1 3 lim 4) (hi : True) (hn : M.1 ≤ lim) {o : (MM) ⊕ (Int32 × MM)} (h : j_X1_fill_148 M p0 a2 = some o) (hK : (KI (fun (q : MM) => RTX X none none q) (fun (t : Int32 × MM) => t.2.1 ≤ lim → WS X t.2 94 [(0, rf X.1 p0), (2, .int t.1)] [])) o) : WS X M 148 [(0, rf X.1 p0), (2, .int a2)] [] := by
  unfold j_X1_fill_148 at h
  refine s_iinc (pc := 148) O (v := (a2 + 1)) (loc' := [(2, .int (a2 + 1)), (0, rf X.1 p0)]) dX1_fill_148 1 rfl rfl (by decide) rfl ?_
  refine s_goto (pc := 151) O (tgt := 94) dX1_fill_151 (by decide) ?_
  cases h
  exact s_sub (pc := 94) O [1, 0] rfl (hK hn)
def j_X1_fill_147 (M : MM) (p0 : Nat) (a2 : Int32) (s0 : Int32) (s1 : Int32) (s2 : Nat) : Option ((MM) ⊕ (Int32 × MM)) :=
  (waI M s2 s1 s0).bind fun M1 => j_X1_fill_148 M1 p0 a2
set_option maxHeartbeats 4000000 in
set_option maxRecDepth 100000 in
theorem g_X1_fill_147 {X : CT} {lim : Nat} {M : MM} {p0 : Nat} {a2 : Int32} {s0 : Int32} {s1 : Int32} {s2 : Nat} (O : OKX X cX1_fill RX1 3 lim 4) (hi : True) (hn : M.1 ≤ lim) {o : (MM) ⊕ (Int32 × MM)} (h : j_X1_fill_147 M p0 a2 s0 s1 s2 = some o) (hK : (KI (fun (q : MM) => RTX X none none q) (fun (t : Int32 × MM) => t.2.1 ≤ lim → WS X t.2 94 [(0, rf X.1 p0), (2, .int t.1)] [])) o) : WS X M 147 [(0, rf X.1 p0), (2, .int a2)] [.int s0, .int s1, rf X.1 s2] := by
  unfold j_X1_fill_147 at h
  obtain ⟨M1, e, h⟩ := bd h
  refine s_astI (pc := 147) O e dX1_fill_147 ?_
  have hn : M1.1 ≤ lim := by rw [waI_n e]; exact hn
  exact s_sub (pc := 148) O [0, 1] rfl (g_X1_fill_148 O hi hn h hK)
def z_X1_fill_94 (M : MM) (p0 : Nat) (a2 : Int32) : Option ((MM) ⊕ (Int32 × MM)) :=
  if (1000 : Int32) ≤ a2 then (some ((.inl M))) else ((fR M p0 1 0).bind fun v1 => (aZ M v1 a2).bind fun v2 => if v2 = 0 then (j_X1_fill_148 M p0 a2) else ((fR M p0 1 12).bind fun v3 => (aI M v3 a2).bind fun v4 => (fR M p0 1 7).bind fun v5 => (fR M p0 1 10).bind fun v6 => (aI M v6 v4).bind fun v7 => if v7 = a2 then ((fR M p0 1 11).bind fun v10 => (aI M v10 v4).bind fun v11 => j_X1_fill_147 M p0 a2 v11 a2 v5) else ((fR M p0 1 10).bind fun v8 => (aI M v8 v4).bind fun v9 => j_X1_fill_147 M p0 a2 v9 a2 v5)))
set_option maxHeartbeats 4000000 in
set_option maxRecDepth 100000 in
theorem b_X1_fill_94 {X : CT} {lim : Nat} {M : MM} {p0 : Nat} {a2 : Int32} (O : OKX X cX1_fill RX1 3 lim 4) (hi : True) (hn : M.1 ≤ lim) {o : (MM) ⊕ (Int32 × MM)} (h : z_X1_fill_94 M p0 a2 = some o) (hK : (KI (fun (q : MM) => RTX X none none q) (fun (t : Int32 × MM) => t.2.1 ≤ lim → WS X t.2 94 [(0, rf X.1 p0), (2, .int t.1)] [])) o) : WS X M 94 [(0, rf X.1 p0), (2, .int a2)] [] := by
  unfold z_X1_fill_94 at h
  refine s_iload_n (pc := 94) O dX1_fill_94 rfl 1 rfl ?_
  refine s_sipush (pc := 95) O (v := 1000) dX1_fill_95 (by decide) ?_
  refine s_icmp_ge (pc := 98) O (tgt := 154) dX1_fill_98 (by decide) (fun c => ?_) (fun c => ?_)
  · have h := ifp c h
    cases h
    exact s_vret (pc := 154) O hK dX1_fill_154
  · have h := ifn c h
    refine s_aload_n (pc := 101) O dX1_fill_101 rfl 0 rfl ?_
    obtain ⟨v1, e, h⟩ := bd h
    refine s_getR (pc := 102) O kc1 (k := 0) rfl tw_101 e dX1_fill_102 ?_
    refine s_iload_n (pc := 105) O dX1_fill_105 rfl 1 rfl ?_
    obtain ⟨v2, e, h⟩ := bd h
    refine s_aldZ (pc := 106) O e dX1_fill_106 ?_
    refine s_if_eq (pc := 107) O (tgt := 148) dX1_fill_107 (by decide) (fun c => ?_) (fun c => ?_)
    · have h := ifp c h
      exact s_sub (pc := 148) O [0, 1] rfl (g_X1_fill_148 O hi hn h hK)
    · have h := ifn c h
      refine s_aload_n (pc := 110) O dX1_fill_110 rfl 0 rfl ?_
      obtain ⟨v3, e, h⟩ := bd h
      refine s_getR (pc := 111) O kc1 (k := 12) rfl tw_118 e dX1_fill_111 ?_
      refine s_iload_n (pc := 114) O dX1_fill_114 rfl 1 rfl ?_
      obtain ⟨v4, e, h⟩ := bd h
      refine s_aldI (pc := 115) O e dX1_fill_115 ?_
      refine s_istore_n (pc := 116) O (loc' := [(3, .int v4), (0, rf X.1 p0), (2, .int a2)]) dX1_fill_116 rfl (by decide) rfl ?_
      refine s_aload_n (pc := 117) O dX1_fill_117 rfl 1 rfl ?_
      obtain ⟨v5, e, h⟩ := bd h
      refine s_getR (pc := 118) O kc1 (k := 7) rfl tw_111 e dX1_fill_118 ?_
      refine s_iload_n (pc := 121) O dX1_fill_121 rfl 2 rfl ?_
      refine s_aload_n (pc := 122) O dX1_fill_122 rfl 1 rfl ?_
      obtain ⟨v6, e, h⟩ := bd h
      refine s_getR (pc := 123) O kc1 (k := 10) rfl tw_116 e dX1_fill_123 ?_
      refine s_iload_n (pc := 126) O dX1_fill_126 rfl 0 rfl ?_
      obtain ⟨v7, e, h⟩ := bd h
      refine s_aldI (pc := 127) O e dX1_fill_127 ?_
      refine s_iload_n (pc := 128) O dX1_fill_128 rfl 2 rfl ?_
      refine s_icmp_ne (pc := 129) O (tgt := 141) dX1_fill_129 (by decide) (fun c => ?_) (fun c => ?_)
      · have h := ifn c h
        refine s_aload_n (pc := 141) O dX1_fill_141 rfl 1 rfl ?_
        obtain ⟨v8, e, h⟩ := bd h
        refine s_getR (pc := 142) O kc1 (k := 10) rfl tw_116 e dX1_fill_142 ?_
        refine s_iload_n (pc := 145) O dX1_fill_145 rfl 0 rfl ?_
        obtain ⟨v9, e, h⟩ := bd h
        refine s_aldI (pc := 146) O e dX1_fill_146 ?_
        exact s_sub (pc := 147) O [1, 2] rfl (g_X1_fill_147 O hi hn h hK)
      · have h := ifp c h
        refine s_aload_n (pc := 132) O dX1_fill_132 rfl 1 rfl ?_
        obtain ⟨v10, e, h⟩ := bd h
        refine s_getR (pc := 133) O kc1 (k := 11) rfl tw_117 e dX1_fill_133 ?_
        refine s_iload_n (pc := 136) O dX1_fill_136 rfl 0 rfl ?_
        obtain ⟨v11, e, h⟩ := bd h
        refine s_aldI (pc := 137) O e dX1_fill_137 ?_
        refine s_goto (pc := 138) O (tgt := 147) dX1_fill_138 (by decide) ?_
        exact s_sub (pc := 147) O [1, 2] rfl (g_X1_fill_147 O hi hn h hK)
set_option maxHeartbeats 4000000 in
set_option maxRecDepth 100000 in
theorem l_X1_fill_94 {X : CT} {lim : Nat} {M : MM} {p0 : Nat} {a2 : Int32} (O : OKX X cX1_fill RX1 3 lim 4) (hi : True) (hn : M.1 ≤ lim) {o : MM} {n : Nat} (h : lp (fun t => z_X1_fill_94 t.2 p0 t.1) n (a2, M) = some o) (hK : (fun (q : MM) => RTX X none none q) o) : WS X M 94 [(0, rf X.1 p0), (2, .int a2)] [] := by
  refine lp_ind (P := fun (o : MM) (t : Int32 × MM) => t.2.1 ≤ lim → (fun (q : MM) => RTX X none none q) o → WS X t.2 94 [(0, rf X.1 p0), (2, .int t.1)] []) (fun t o hs hn hK => ?_) n (a2, M) o h hn hK
  rcases hs with h | ⟨u, h, hu⟩
  · exact b_X1_fill_94 O hi hn h hK
  · exact b_X1_fill_94 O hi hn h (show KI _ _ (.inr u) from fun hn => hu hn hK)
def j_X1_fill_86 (M : MM) (p0 : Nat) (p1 : Nat) (a2 : Int32) : Option ((MM) ⊕ (Int32 × MM)) :=
  some ((.inr ((a2 + 1), M)))
set_option maxHeartbeats 4000000 in
set_option maxRecDepth 100000 in
theorem g_X1_fill_86 {X : CT} {lim : Nat} {M : MM} {p0 : Nat} {p1 : Nat} {a2 : Int32} (O : OKX X cX1_fill RX1 3 lim 4) (hi : True) (hn : M.1 ≤ lim) {o : (MM) ⊕ (Int32 × MM)} (h : j_X1_fill_86 M p0 p1 a2 = some o) (hK : (KI (fun (q : MM) => RTX X none none q) (fun (t : Int32 × MM) => t.2.1 ≤ lim → WS X t.2 34 [(0, rf X.1 p0), (1, rf X.1 p1), (2, .int t.1)] [])) o) : WS X M 86 [(0, rf X.1 p0), (1, rf X.1 p1), (2, .int a2)] [] := by
  unfold j_X1_fill_86 at h
  refine s_iinc (pc := 86) O (v := (a2 + 1)) (loc' := [(2, .int (a2 + 1)), (0, rf X.1 p0), (1, rf X.1 p1)]) dX1_fill_86 2 rfl rfl (by decide) rfl ?_
  refine s_goto (pc := 89) O (tgt := 34) dX1_fill_89 (by decide) ?_
  cases h
  exact s_sub (pc := 34) O [1, 2, 0] rfl (hK hn)
def z_X1_fill_34 (M : MM) (p0 : Nat) (p1 : Nat) (a2 : Int32) : Option ((MM) ⊕ (Int32 × MM)) :=
  if (1000 : Int32) ≤ a2 then ((lp (fun t => z_X1_fill_94 t.2 p0 t.1) FU (1, M)).map .inl) else ((f_X1_fillRow M p0 a2 p1).bind fun M1 => if M1.1 = M.1 then ((fR M1 p0 1 0).bind fun v2 => (aZ M1 v2 a2).bind fun v3 => if v3 = 0 then (j_X1_fill_86 M1 p0 p1 a2) else ((fI M1 p0 1 9).bind fun v4 => (wfI M1 p0 1 9 ((v4 + 1))).bind fun M5 => (fR M5 p0 1 8).bind fun v6 => (fR M5 p0 1 6).bind fun v7 => (aI M5 v7 a2).bind fun v8 => (aI M5 v6 v8).bind fun v9 => (waI M5 v6 v8 ((v9 + 1))).bind fun M10 => (f_X1_putIntoGroup M10 p0 a2).bind fun M11 => if M11.1 = M10.1 then (j_X1_fill_86 M11 p0 p1 a2) else none)) else none)
set_option maxHeartbeats 4000000 in
set_option maxRecDepth 100000 in
theorem b_X1_fill_34 {X : CT} {lim : Nat} {M : MM} {p0 : Nat} {p1 : Nat} {a2 : Int32} (O : OKX X cX1_fill RX1 3 lim 4) (hi : True) (hn : M.1 ≤ lim) {o : (MM) ⊕ (Int32 × MM)} (h : z_X1_fill_34 M p0 p1 a2 = some o) (hK : (KI (fun (q : MM) => RTX X none none q) (fun (t : Int32 × MM) => t.2.1 ≤ lim → WS X t.2 34 [(0, rf X.1 p0), (1, rf X.1 p1), (2, .int t.1)] [])) o) : WS X M 34 [(0, rf X.1 p0), (1, rf X.1 p1), (2, .int a2)] [] := by
  unfold z_X1_fill_34 at h
  refine s_iload_n (pc := 34) O dX1_fill_34 rfl 2 rfl ?_
  refine s_sipush (pc := 35) O (v := 1000) dX1_fill_35 (by decide) ?_
  refine s_icmp_ge (pc := 38) O (tgt := 92) dX1_fill_38 (by decide) (fun c => ?_) (fun c => ?_)
  · have h := ifp c h
    obtain ⟨q0, hq0, ho0⟩ := mpi h; subst ho0; replace h := hq0
    refine s_iconst (pc := 92) O (v := 1) dX1_fill_92 (by decide) ?_
    refine s_istore_n (pc := 93) O (loc' := [(2, .int 1), (0, rf X.1 p0), (1, rf X.1 p1)]) dX1_fill_93 rfl (by decide) rfl ?_
    exact s_sub (pc := 94) O [1, 0] rfl (l_X1_fill_94 O hi hn h hK)
  · have h := ifn c h
    refine s_aload_n (pc := 41) O dX1_fill_41 rfl 0 rfl ?_
    refine s_iload_n (pc := 42) O dX1_fill_42 rfl 2 rfl ?_
    refine s_aload_n (pc := 43) O dX1_fill_43 rfl 1 rfl ?_
    obtain ⟨M1, e, h⟩ := bd h
    obtain ⟨hg, h⟩ := gd h
    refine s_callVv (pc := 44) O (As := [.int a2, rf X.1 p1]) kc1 (c_X1_fillRow (G := X.1) e (Nat.le_of_eq hg.symm)) cy_X1_fillRow tw_390 tw_392 tw_6 (by decide) rfl (Nat.le_of_eq hg.symm) (by rw [hg]; exact hn) (r_X1_fillRow e).1 (r_X1_fillRow e).2 rfl (Nat.le_of_ble_eq_true rfl) dX1_fill_44 ?_
    have hn : M1.1 ≤ lim := by rw [hg]; exact hn
    refine s_aload_n (pc := 47) O dX1_fill_47 rfl 0 rfl ?_
    obtain ⟨v2, e, h⟩ := bd h
    refine s_getR (pc := 48) O kc1 (k := 0) rfl tw_101 e dX1_fill_48 ?_
    refine s_iload_n (pc := 51) O dX1_fill_51 rfl 2 rfl ?_
    obtain ⟨v3, e, h⟩ := bd h
    refine s_aldZ (pc := 52) O e dX1_fill_52 ?_
    refine s_if_eq (pc := 53) O (tgt := 86) dX1_fill_53 (by decide) (fun c => ?_) (fun c => ?_)
    · have h := ifp c h
      exact s_sub (pc := 86) O [0, 1, 2] rfl (g_X1_fill_86 O hi hn h hK)
    · have h := ifn c h
      refine s_aload_n (pc := 56) O dX1_fill_56 rfl 0 rfl ?_
      refine s_dup (pc := 57) O dX1_fill_57 rfl ?_
      obtain ⟨v4, e, h⟩ := bd h
      refine s_getI (pc := 58) O kc1 (k := 9) rfl tw_114 e dX1_fill_58 ?_
      refine s_iconst (pc := 61) O (v := 1) dX1_fill_61 (by decide) ?_
      refine s_iadd (pc := 62) O dX1_fill_62 ?_
      obtain ⟨M5, e, h⟩ := bd h
      refine s_putI (pc := 63) O kc1 (k := 9) rfl rfl rfl tw_114 e dX1_fill_63 ?_
      have hn : M5.1 ≤ lim := by rw [wfI_n e]; exact hn
      refine s_aload_n (pc := 66) O dX1_fill_66 rfl 0 rfl ?_
      obtain ⟨v6, e, h⟩ := bd h
      refine s_getR (pc := 67) O kc1 (k := 8) rfl tw_113 e dX1_fill_67 ?_
      refine s_aload_n (pc := 70) O dX1_fill_70 rfl 0 rfl ?_
      obtain ⟨v7, e, h⟩ := bd h
      refine s_getR (pc := 71) O kc1 (k := 6) rfl tw_110 e dX1_fill_71 ?_
      refine s_iload_n (pc := 74) O dX1_fill_74 rfl 2 rfl ?_
      obtain ⟨v8, e, h⟩ := bd h
      refine s_aldI (pc := 75) O e dX1_fill_75 ?_
      refine s_dup2 (pc := 76) O dX1_fill_76 rfl rfl ?_
      obtain ⟨v9, e, h⟩ := bd h
      refine s_aldI (pc := 77) O e dX1_fill_77 ?_
      refine s_iconst (pc := 78) O (v := 1) dX1_fill_78 (by decide) ?_
      refine s_iadd (pc := 79) O dX1_fill_79 ?_
      obtain ⟨M10, e, h⟩ := bd h
      refine s_astI (pc := 80) O e dX1_fill_80 ?_
      have hn : M10.1 ≤ lim := by rw [waI_n e]; exact hn
      refine s_aload_n (pc := 81) O dX1_fill_81 rfl 0 rfl ?_
      refine s_iload_n (pc := 82) O dX1_fill_82 rfl 2 rfl ?_
      obtain ⟨M11, e, h⟩ := bd h
      obtain ⟨hg, h⟩ := gd h
      refine s_callVv (pc := 83) O (As := [.int a2]) kc1 (c_X1_putIntoGroup (G := X.1) e (Nat.le_of_eq hg.symm)) cy_X1_putIntoGroup tw_402 tw_404 tw_7 (by decide) rfl (Nat.le_of_eq hg.symm) (by rw [hg]; exact hn) (r_X1_putIntoGroup e).1 (r_X1_putIntoGroup e).2 rfl (Nat.le_of_ble_eq_true rfl) dX1_fill_83 ?_
      have hn : M11.1 ≤ lim := by rw [hg]; exact hn
      exact s_sub (pc := 86) O [0, 1, 2] rfl (g_X1_fill_86 O hi hn h hK)
set_option maxHeartbeats 4000000 in
set_option maxRecDepth 100000 in
theorem l_X1_fill_34 {X : CT} {lim : Nat} {M : MM} {p0 : Nat} {p1 : Nat} {a2 : Int32} (O : OKX X cX1_fill RX1 3 lim 4) (hi : True) (hn : M.1 ≤ lim) {o : MM} {n : Nat} (h : lp (fun t => z_X1_fill_34 t.2 p0 p1 t.1) n (a2, M) = some o) (hK : (fun (q : MM) => RTX X none none q) o) : WS X M 34 [(0, rf X.1 p0), (1, rf X.1 p1), (2, .int a2)] [] := by
  refine lp_ind (P := fun (o : MM) (t : Int32 × MM) => t.2.1 ≤ lim → (fun (q : MM) => RTX X none none q) o → WS X t.2 34 [(0, rf X.1 p0), (1, rf X.1 p1), (2, .int t.1)] []) (fun t o hs hn hK => ?_) n (a2, M) o h hn hK
  rcases hs with h | ⟨u, h, hu⟩
  · exact b_X1_fill_34 O hi hn h hK
  · exact b_X1_fill_34 O hi hn h (show KI _ _ (.inr u) from fun hn => hu hn hK)
def z_X1_fill_2 (M : MM) (p0 : Nat) (p1 : Nat) (a2 : Int32) : Option ((MM) ⊕ (Int32 × MM)) :=
  if (256 : Int32) ≤ a2 then (((wfI M p0 1 9 0).bind fun M1 => (wfI M1 p0 1 13 0).bind fun M2 => lp (fun t => z_X1_fill_34 t.2 p0 p1 t.1) FU (1, M2)).map .inl) else ((fR M p0 1 8).bind fun v3 => (waI M v3 a2 0).bind fun M4 => some ((.inr ((a2 + 1), M4))))
set_option maxHeartbeats 4000000 in
set_option maxRecDepth 100000 in
theorem b_X1_fill_2 {X : CT} {lim : Nat} {M : MM} {p0 : Nat} {p1 : Nat} {a2 : Int32} (O : OKX X cX1_fill RX1 3 lim 4) (hi : True) (hn : M.1 ≤ lim) {o : (MM) ⊕ (Int32 × MM)} (h : z_X1_fill_2 M p0 p1 a2 = some o) (hK : (KI (fun (q : MM) => RTX X none none q) (fun (t : Int32 × MM) => t.2.1 ≤ lim → WS X t.2 2 [(0, rf X.1 p0), (1, rf X.1 p1), (2, .int t.1)] [])) o) : WS X M 2 [(0, rf X.1 p0), (1, rf X.1 p1), (2, .int a2)] [] := by
  unfold z_X1_fill_2 at h
  refine s_iload_n (pc := 2) O dX1_fill_2 rfl 2 rfl ?_
  refine s_sipush (pc := 3) O (v := 256) dX1_fill_3 (by decide) ?_
  refine s_icmp_ge (pc := 6) O (tgt := 22) dX1_fill_6 (by decide) (fun c => ?_) (fun c => ?_)
  · have h := ifp c h
    obtain ⟨q0, hq0, ho0⟩ := mpi h; subst ho0; replace h := hq0
    refine s_aload_n (pc := 22) O dX1_fill_22 rfl 0 rfl ?_
    refine s_iconst (pc := 23) O (v := 0) dX1_fill_23 (by decide) ?_
    obtain ⟨M1, e, h⟩ := bd h
    refine s_putI (pc := 24) O kc1 (k := 9) rfl rfl rfl tw_114 e dX1_fill_24 ?_
    have hn : M1.1 ≤ lim := by rw [wfI_n e]; exact hn
    refine s_aload_n (pc := 27) O dX1_fill_27 rfl 0 rfl ?_
    refine s_iconst (pc := 28) O (v := 0) dX1_fill_28 (by decide) ?_
    obtain ⟨M2, e, h⟩ := bd h
    refine s_putI (pc := 29) O kc1 (k := 13) rfl rfl rfl tw_119 e dX1_fill_29 ?_
    have hn : M2.1 ≤ lim := by rw [wfI_n e]; exact hn
    refine s_iconst (pc := 32) O (v := 1) dX1_fill_32 (by decide) ?_
    refine s_istore_n (pc := 33) O (loc' := [(2, .int 1), (0, rf X.1 p0), (1, rf X.1 p1)]) dX1_fill_33 rfl (by decide) rfl ?_
    exact s_sub (pc := 34) O [1, 2, 0] rfl (l_X1_fill_34 O hi hn h hK)
  · have h := ifn c h
    refine s_aload_n (pc := 9) O dX1_fill_9 rfl 0 rfl ?_
    obtain ⟨v3, e, h⟩ := bd h
    refine s_getR (pc := 10) O kc1 (k := 8) rfl tw_113 e dX1_fill_10 ?_
    refine s_iload_n (pc := 13) O dX1_fill_13 rfl 2 rfl ?_
    refine s_iconst (pc := 14) O (v := 0) dX1_fill_14 (by decide) ?_
    obtain ⟨M4, e, h⟩ := bd h
    refine s_astI (pc := 15) O e dX1_fill_15 ?_
    have hn : M4.1 ≤ lim := by rw [waI_n e]; exact hn
    refine s_iinc (pc := 16) O (v := (a2 + 1)) (loc' := [(2, .int (a2 + 1)), (0, rf X.1 p0), (1, rf X.1 p1)]) dX1_fill_16 2 rfl rfl (by decide) rfl ?_
    refine s_goto (pc := 19) O (tgt := 2) dX1_fill_19 (by decide) ?_
    cases h
    exact s_sub (pc := 2) O [1, 2, 0] rfl (hK hn)
set_option maxHeartbeats 4000000 in
set_option maxRecDepth 100000 in
theorem l_X1_fill_2 {X : CT} {lim : Nat} {M : MM} {p0 : Nat} {p1 : Nat} {a2 : Int32} (O : OKX X cX1_fill RX1 3 lim 4) (hi : True) (hn : M.1 ≤ lim) {o : MM} {n : Nat} (h : lp (fun t => z_X1_fill_2 t.2 p0 p1 t.1) n (a2, M) = some o) (hK : (fun (q : MM) => RTX X none none q) o) : WS X M 2 [(0, rf X.1 p0), (1, rf X.1 p1), (2, .int a2)] [] := by
  refine lp_ind (P := fun (o : MM) (t : Int32 × MM) => t.2.1 ≤ lim → (fun (q : MM) => RTX X none none q) o → WS X t.2 2 [(0, rf X.1 p0), (1, rf X.1 p1), (2, .int t.1)] []) (fun t o hs hn hK => ?_) n (a2, M) o h hn hK
  rcases hs with h | ⟨u, h, hu⟩
  · exact b_X1_fill_2 O hi hn h hK
  · exact b_X1_fill_2 O hi hn h (show KI _ _ (.inr u) from fun hn => hu hn hK)
def f_X1_fill (M : MM) (p0 : Nat) (p1 : Nat) : Option (MM) :=
  if p0 < M.1 ∧ kd p0 = 1 then (lp (fun t => z_X1_fill_2 t.2 p0 p1 t.1) FU (0, M)) else none
theorem r_X1_fill {M : MM} {p0 : Nat} {p1 : Nat} {o : MM} (h : f_X1_fill M p0 p1 = some o) : p0 < M.1 ∧ kd p0 = 1 := by
  unfold f_X1_fill at h
  exact (gd h).1
theorem cy_X1_fill : CallY yX1_fill cX1_fill 4 (none) 1 := ⟨by decide +kernel, tw_389, tw_42, by decide⟩
set_option maxHeartbeats 4000000 in
set_option maxRecDepth 100000 in
theorem c_X1_fill {G : GG} {M : MM} {p0 : Nat} {p1 : Nat} {M' : MM} (h : f_X1_fill M p0 p1 = some M') (hn : M.1 ≤ M'.1) : Ct G yX1_fill cX1_fill 4 (none) 3 [rf G p0, rf G p1] M (none) M' := by
  refine ct_of (by decide +kernel) (Nat.le_of_ble_eq_true rfl) (fun X hX O hK hi0 => ?_)
  subst hX
  obtain ⟨lim, hlim⟩ : ∃ z, z = M'.1 := ⟨_, rfl⟩
  rw [← hlim] at O hn
  replace O : OKX X cX1_fill RX1 3 lim 4 := O
  have hi : True := trivial
  show WS X M 0 [(0, rf X.1 p0), (1, rf X.1 p1)] []
  unfold f_X1_fill at h
  obtain ⟨hg0, h⟩ := gd h
  refine s_iconst (pc := 0) O (v := 0) dX1_fill_0 (by decide) ?_
  refine s_istore_n (pc := 1) O (loc' := [(2, .int 0), (0, rf X.1 p0), (1, rf X.1 p1)]) dX1_fill_1 rfl (by decide) rfl ?_
  exact s_sub (pc := 2) O [1, 2, 0] rfl (l_X1_fill_2 O hi hn h hK)

def j_X1_findBest_52 (M : MM) (p0 : Nat) (a1 : Int32) (a2 : Int32) (a3 : Int32) (a4 : Int32) (a5 : Int32) : Option ((Int32) ⊕ (Int32 × Int32 × Int32)) :=
  some ((.inr (a3, a4, (a5 + 1))))
set_option maxHeartbeats 4000000 in
set_option maxRecDepth 100000 in
theorem g_X1_findBest_52 {X : CT} {lim : Nat} {M : MM} {p0 : Nat} {a1 : Int32} {a2 : Int32} {a3 : Int32} {a4 : Int32} {a5 : Int32} (O : OKX X cX1_findBest RX1 3 lim 6) (hi : True) (hn : M.1 ≤ lim) {o : (Int32) ⊕ (Int32 × Int32 × Int32)} (h : j_X1_findBest_52 M p0 a1 a2 a3 a4 a5 = some o) (hK : (KI (fun (q : Int32) => RTX X (some .int) (some (.int q)) M) (fun (t : Int32 × Int32 × Int32) => WS X M 9 [(0, rf X.1 p0), (1, .int a1), (2, .int a2), (3, .int t.1), (4, .int t.2.1), (5, .int t.2.2)] [])) o) : WS X M 52 [(0, rf X.1 p0), (1, .int a1), (2, .int a2), (3, .int a3), (4, .int a4), (5, .int a5)] [] := by
  unfold j_X1_findBest_52 at h
  refine s_iinc (pc := 52) O (v := (a5 + 1)) (loc' := [(5, .int (a5 + 1)), (0, rf X.1 p0), (1, .int a1), (2, .int a2), (3, .int a3), (4, .int a4)]) dX1_findBest_52 5 rfl rfl (by decide) rfl ?_
  refine s_goto (pc := 55) O (tgt := 9) dX1_findBest_55 (by decide) ?_
  cases h
  exact s_sub (pc := 9) O [1, 2, 3, 4, 5, 0] rfl hK
def z_X1_findBest_9 (M : MM) (p0 : Nat) (a1 : Int32) (a2 : Int32) (a3 : Int32) (a4 : Int32) (a5 : Int32) : Option ((Int32) ⊕ (Int32 × Int32 × Int32)) :=
  if (1000 : Int32) ≤ a5 then (some ((.inl a3))) else ((f_X1_isNear M p0 a1 a5 a2).bind fun v1 => if v1 = 0 then (j_X1_findBest_52 M p0 a1 a2 a3 a4 a5) else ((fR M p0 1 2).bind fun v2 => (aI M v2 a5).bind fun v3 => if v3 ≤ a4 then (j_X1_findBest_52 M p0 a1 a2 a3 a4 a5) else ((fR M p0 1 2).bind fun v4 => (aI M v4 a5).bind fun v5 => j_X1_findBest_52 M p0 a1 a2 a5 v5 a5)))
set_option maxHeartbeats 4000000 in
set_option maxRecDepth 100000 in
theorem b_X1_findBest_9 {X : CT} {lim : Nat} {M : MM} {p0 : Nat} {a1 : Int32} {a2 : Int32} {a3 : Int32} {a4 : Int32} {a5 : Int32} (O : OKX X cX1_findBest RX1 3 lim 6) (hi : True) (hn : M.1 ≤ lim) {o : (Int32) ⊕ (Int32 × Int32 × Int32)} (h : z_X1_findBest_9 M p0 a1 a2 a3 a4 a5 = some o) (hK : (KI (fun (q : Int32) => RTX X (some .int) (some (.int q)) M) (fun (t : Int32 × Int32 × Int32) => WS X M 9 [(0, rf X.1 p0), (1, .int a1), (2, .int a2), (3, .int t.1), (4, .int t.2.1), (5, .int t.2.2)] [])) o) : WS X M 9 [(0, rf X.1 p0), (1, .int a1), (2, .int a2), (3, .int a3), (4, .int a4), (5, .int a5)] [] := by
  unfold z_X1_findBest_9 at h
  refine s_iload (pc := 9) O dX1_findBest_9 5 rfl ?_
  refine s_sipush (pc := 11) O (v := 1000) dX1_findBest_11 (by decide) ?_
  refine s_icmp_ge (pc := 14) O (tgt := 58) dX1_findBest_14 (by decide) (fun c => ?_) (fun c => ?_)
  · have h := ifp c h
    refine s_iload_n (pc := 58) O dX1_findBest_58 rfl 3 rfl ?_
    cases h
    exact s_iret (pc := 59) O hK dX1_findBest_59
  · have h := ifn c h
    refine s_aload_n (pc := 17) O dX1_findBest_17 rfl 0 rfl ?_
    refine s_iload_n (pc := 18) O dX1_findBest_18 rfl 1 rfl ?_
    refine s_iload (pc := 19) O dX1_findBest_19 5 rfl ?_
    refine s_iload_n (pc := 21) O dX1_findBest_21 rfl 2 rfl ?_
    obtain ⟨v1, e, h⟩ := bd h
    refine s_callVi (pc := 22) O (As := [.int a1, .int a5, .int a2]) kc1 (c_X1_isNear (G := X.1) e) cy_X1_isNear tw_489 tw_491 tw_10 (by decide) rfl (Nat.le_refl _) hn (r_X1_isNear e).1 (r_X1_isNear e).2 rfl (Nat.le_of_ble_eq_true rfl) dX1_findBest_22 ?_
    refine s_if_eq (pc := 25) O (tgt := 52) dX1_findBest_25 (by decide) (fun c => ?_) (fun c => ?_)
    · have h := ifp c h
      exact s_sub (pc := 52) O [0, 1, 2, 3, 4, 5] rfl (g_X1_findBest_52 O hi hn h hK)
    · have h := ifn c h
      refine s_aload_n (pc := 28) O dX1_findBest_28 rfl 0 rfl ?_
      obtain ⟨v2, e, h⟩ := bd h
      refine s_getR (pc := 29) O kc1 (k := 2) rfl tw_103 e dX1_findBest_29 ?_
      refine s_iload (pc := 32) O dX1_findBest_32 5 rfl ?_
      obtain ⟨v3, e, h⟩ := bd h
      refine s_aldI (pc := 34) O e dX1_findBest_34 ?_
      refine s_iload (pc := 35) O dX1_findBest_35 4 rfl ?_
      refine s_icmp_le (pc := 37) O (tgt := 52) dX1_findBest_37 (by decide) (fun c => ?_) (fun c => ?_)
      · have h := ifp c h
        exact s_sub (pc := 52) O [0, 1, 2, 3, 4, 5] rfl (g_X1_findBest_52 O hi hn h hK)
      · have h := ifn c h
        refine s_iload (pc := 40) O dX1_findBest_40 5 rfl ?_
        refine s_istore_n (pc := 42) O (loc' := [(3, .int a5), (0, rf X.1 p0), (1, .int a1), (2, .int a2), (4, .int a4), (5, .int a5)]) dX1_findBest_42 rfl (by decide) rfl ?_
        refine s_aload_n (pc := 43) O dX1_findBest_43 rfl 1 rfl ?_
        obtain ⟨v4, e, h⟩ := bd h
        refine s_getR (pc := 44) O kc1 (k := 2) rfl tw_103 e dX1_findBest_44 ?_
        refine s_iload (pc := 47) O dX1_findBest_47 5 rfl ?_
        obtain ⟨v5, e, h⟩ := bd h
        refine s_aldI (pc := 49) O e dX1_findBest_49 ?_
        refine s_istore (pc := 50) O (loc' := [(4, .int v5), (3, .int a5), (0, rf X.1 p0), (1, .int a1), (2, .int a2), (5, .int a5)]) dX1_findBest_50 (by decide) rfl ?_
        exact s_sub (pc := 52) O [2, 3, 4, 1, 0, 5] rfl (g_X1_findBest_52 O hi hn h hK)
set_option maxHeartbeats 4000000 in
set_option maxRecDepth 100000 in
theorem l_X1_findBest_9 {X : CT} {lim : Nat} {M : MM} {p0 : Nat} {a1 : Int32} {a2 : Int32} {a3 : Int32} {a4 : Int32} {a5 : Int32} (O : OKX X cX1_findBest RX1 3 lim 6) (hi : True) (hn : M.1 ≤ lim) {o : Int32} {n : Nat} (h : lp (fun t => z_X1_findBest_9 M p0 a1 a2 t.1 t.2.1 t.2.2) n (a3, a4, a5) = some o) (hK : (fun (q : Int32) => RTX X (some .int) (some (.int q)) M) o) : WS X M 9 [(0, rf X.1 p0), (1, .int a1), (2, .int a2), (3, .int a3), (4, .int a4), (5, .int a5)] [] := by
  refine lp_ind (P := fun (o : Int32) (t : Int32 × Int32 × Int32) => (fun (q : Int32) => RTX X (some .int) (some (.int q)) M) o → WS X M 9 [(0, rf X.1 p0), (1, .int a1), (2, .int a2), (3, .int t.1), (4, .int t.2.1), (5, .int t.2.2)] []) (fun t o hs  hK => ?_) n (a3, a4, a5) o h  hK
  rcases hs with h | ⟨u, h, hu⟩
  · exact b_X1_findBest_9 O hi hn h hK
  · exact b_X1_findBest_9 O hi hn h (show KI _ _ (.inr u) from hu hK)
def f_X1_findBest (M : MM) (p0 : Nat) (a1 : Int32) (a2 : Int32) : Option (Int32) :=
  if p0 < M.1 ∧ kd p0 = 1 then (lp (fun t => z_X1_findBest_9 M p0 a1 a2 t.1 t.2.1 t.2.2) FU ((-9), (-1), 1)) else none
theorem r_X1_findBest {M : MM} {p0 : Nat} {a1 : Int32} {a2 : Int32} {o : Int32} (h : f_X1_findBest M p0 a1 a2 = some o) : p0 < M.1 ∧ kd p0 = 1 := by
  unfold f_X1_findBest at h
  exact (gd h).1
theorem cy_X1_findBest : CallY yX1_findBest cX1_findBest 6 (some .int) 2 := ⟨by decide +kernel, tw_504, tw_42, by decide⟩
set_option maxHeartbeats 4000000 in
set_option maxRecDepth 100000 in
theorem c_X1_findBest {G : GG} {M : MM} {p0 : Nat} {a1 : Int32} {a2 : Int32} {r : Int32} (h : f_X1_findBest M p0 a1 a2 = some r) : Ct G yX1_findBest cX1_findBest 6 (some .int) 3 [rf G p0, .int a1, .int a2] M (some (.int r)) M := by
  refine ct_of (by decide +kernel) (Nat.le_of_ble_eq_true rfl) (fun X hX O hK hi0 => ?_)
  subst hX
  obtain ⟨lim, hlim⟩ : ∃ z, z = M.1 := ⟨_, rfl⟩
  rw [← hlim] at O
  replace O : OKX X cX1_findBest RX1 3 lim 6 := O
  have hi : True := trivial
  have hn : M.1 ≤ lim := Nat.le_of_eq hlim.symm
  show WS X M 0 [(0, rf X.1 p0), (1, .int a1), (2, .int a2)] []
  unfold f_X1_findBest at h
  obtain ⟨hg0, h⟩ := gd h
  refine s_bipush (pc := 0) O (v := (-9)) dX1_findBest_0 (by decide) ?_
  refine s_istore_n (pc := 2) O (loc' := [(3, .int (-9)), (0, rf X.1 p0), (1, .int a1), (2, .int a2)]) dX1_findBest_2 rfl (by decide) rfl ?_
  refine s_iconst (pc := 3) O (v := (-1)) dX1_findBest_3 (by decide) ?_
  refine s_istore (pc := 4) O (loc' := [(4, .int (-1)), (3, .int (-9)), (0, rf X.1 p0), (1, .int a1), (2, .int a2)]) dX1_findBest_4 (by decide) rfl ?_
  refine s_iconst (pc := 6) O (v := 1) dX1_findBest_6 (by decide) ?_
  refine s_istore (pc := 7) O (loc' := [(5, .int 1), (4, .int (-1)), (3, .int (-9)), (0, rf X.1 p0), (1, .int a1), (2, .int a2)]) dX1_findBest_7 (by decide) rfl ?_
  exact s_sub (pc := 9) O [3, 4, 5, 2, 1, 0] rfl (l_X1_findBest_9 O hi hn h hK)

def z_X1_leastCommonSign_59 (M : MM) (a3 : Int32) (a5 : Int32) : Option ((Int32) ⊕ (Int32)) :=
  if (8 : Int32) ≤ a5 then (some ((.inl (-9)))) else (if ((a3 >>> (a5 &&& 31)) &&& 1) = 1 then (some ((.inl a5))) else (some ((.inr ((a5 + 1))))))
set_option maxHeartbeats 4000000 in
set_option maxRecDepth 100000 in
theorem b_X1_leastCommonSign_59 {X : CT} {lim : Nat} {M : MM} {a3 : Int32} {a5 : Int32} (O : OKX X cX1_leastCommonSign RX1 3 lim 6) (hi : True) (hn : M.1 ≤ lim) {o : (Int32) ⊕ (Int32)} (h : z_X1_leastCommonSign_59 M a3 a5 = some o) (hK : (KI (fun (q : Int32) => RTX X (some .int) (some (.int q)) M) (fun (t : Int32) => WS X M 59 [(3, .int a3), (5, .int t)] [])) o) : WS X M 59 [(3, .int a3), (5, .int a5)] [] := by
  unfold z_X1_leastCommonSign_59 at h
  refine s_iload (pc := 59) O dX1_leastCommonSign_59 1 rfl ?_
  refine s_bipush (pc := 61) O (v := 8) dX1_leastCommonSign_61 (by decide) ?_
  refine s_icmp_ge (pc := 63) O (tgt := 85) dX1_leastCommonSign_63 (by decide) (fun c => ?_) (fun c => ?_)
  · have h := ifp c h
    refine s_bipush (pc := 85) O (v := (-9)) dX1_leastCommonSign_85 (by decide) ?_
    cases h
    exact s_iret (pc := 87) O hK dX1_leastCommonSign_87
  · have h := ifn c h
    refine s_iload_n (pc := 66) O dX1_leastCommonSign_66 rfl 0 rfl ?_
    refine s_iload (pc := 67) O dX1_leastCommonSign_67 1 rfl ?_
    refine s_ishr (pc := 69) O dX1_leastCommonSign_69 ?_
    refine s_iconst (pc := 70) O (v := 1) dX1_leastCommonSign_70 (by decide) ?_
    refine s_iand (pc := 71) O dX1_leastCommonSign_71 ?_
    refine s_iconst (pc := 72) O (v := 1) dX1_leastCommonSign_72 (by decide) ?_
    refine s_icmp_ne (pc := 73) O (tgt := 79) dX1_leastCommonSign_73 (by decide) (fun c => ?_) (fun c => ?_)
    · have h := ifn c h
      refine s_iinc (pc := 79) O (v := (a5 + 1)) (loc' := [(5, .int (a5 + 1)), (3, .int a3)]) dX1_leastCommonSign_79 1 rfl rfl (by decide) rfl ?_
      refine s_goto (pc := 82) O (tgt := 59) dX1_leastCommonSign_82 (by decide) ?_
      cases h
      exact s_sub (pc := 59) O [1, 0] rfl hK
    · have h := ifp c h
      refine s_iload (pc := 76) O dX1_leastCommonSign_76 1 rfl ?_
      cases h
      exact s_iret (pc := 78) O hK dX1_leastCommonSign_78
set_option maxHeartbeats 4000000 in
set_option maxRecDepth 100000 in
theorem l_X1_leastCommonSign_59 {X : CT} {lim : Nat} {M : MM} {a3 : Int32} {a5 : Int32} (O : OKX X cX1_leastCommonSign RX1 3 lim 6) (hi : True) (hn : M.1 ≤ lim) {o : Int32} {n : Nat} (h : lp (fun t => z_X1_leastCommonSign_59 M a3 t) n (a5) = some o) (hK : (fun (q : Int32) => RTX X (some .int) (some (.int q)) M) o) : WS X M 59 [(3, .int a3), (5, .int a5)] [] := by
  refine lp_ind (P := fun (o : Int32) (t : Int32) => (fun (q : Int32) => RTX X (some .int) (some (.int q)) M) o → WS X M 59 [(3, .int a3), (5, .int t)] []) (fun t o hs  hK => ?_) n (a5) o h  hK
  rcases hs with h | ⟨u, h, hu⟩
  · exact b_X1_leastCommonSign_59 O hi hn h hK
  · exact b_X1_leastCommonSign_59 O hi hn h (show KI _ _ (.inr u) from hu hK)
def j_X1_leastCommonSign_42 (M : MM) (p0 : Nat) (a1 : Int32) (a2 : Int32) (a3 : Int32) (a4 : Int32) (a5 : Int32) : Option ((Int32) ⊕ (Int32 × Int32 × Int32)) :=
  some ((.inr (a3, a4, (a5 + 1))))
set_option maxHeartbeats 4000000 in
set_option maxRecDepth 100000 in
theorem g_X1_leastCommonSign_42 {X : CT} {lim : Nat} {M : MM} {p0 : Nat} {a1 : Int32} {a2 : Int32} {a3 : Int32} {a4 : Int32} {a5 : Int32} (O : OKX X cX1_leastCommonSign RX1 3 lim 6) (hi : True) (hn : M.1 ≤ lim) {o : (Int32) ⊕ (Int32 × Int32 × Int32)} (h : j_X1_leastCommonSign_42 M p0 a1 a2 a3 a4 a5 = some o) (hK : (KI (fun (q : Int32) => RTX X (some .int) (some (.int q)) M) (fun (t : Int32 × Int32 × Int32) => WS X M 10 [(0, rf X.1 p0), (1, .int a1), (2, .int a2), (3, .int t.1), (4, .int t.2.1), (5, .int t.2.2)] [])) o) : WS X M 42 [(0, rf X.1 p0), (1, .int a1), (2, .int a2), (3, .int a3), (4, .int a4), (5, .int a5)] [] := by
  unfold j_X1_leastCommonSign_42 at h
  refine s_iinc (pc := 42) O (v := (a5 + 1)) (loc' := [(5, .int (a5 + 1)), (0, rf X.1 p0), (1, .int a1), (2, .int a2), (3, .int a3), (4, .int a4)]) dX1_leastCommonSign_42 5 rfl rfl (by decide) rfl ?_
  refine s_goto (pc := 45) O (tgt := 10) dX1_leastCommonSign_45 (by decide) ?_
  cases h
  exact s_sub (pc := 10) O [1, 2, 3, 4, 5, 0] rfl hK
def z_X1_leastCommonSign_10 (M : MM) (p0 : Nat) (a1 : Int32) (a2 : Int32) (a3 : Int32) (a4 : Int32) (a5 : Int32) : Option ((Int32) ⊕ (Int32 × Int32 × Int32)) :=
  if (1000 : Int32) ≤ a5 then ((if a4 = 0 then (lp (fun t => z_X1_leastCommonSign_59 M a3 t) FU (0)) else (some ((-5)))).map .inl) else ((f_X1_isNear M p0 a1 a5 a2).bind fun v1 => if v1 = 0 then (j_X1_leastCommonSign_42 M p0 a1 a2 a3 a4 a5) else ((fR M p0 1 6).bind fun v2 => (aI M v2 a5).bind fun v3 => j_X1_leastCommonSign_42 M p0 a1 a2 ((a3 &&& v3)) 0 a5))
set_option maxHeartbeats 4000000 in
set_option maxRecDepth 100000 in
theorem b_X1_leastCommonSign_10 {X : CT} {lim : Nat} {M : MM} {p0 : Nat} {a1 : Int32} {a2 : Int32} {a3 : Int32} {a4 : Int32} {a5 : Int32} (O : OKX X cX1_leastCommonSign RX1 3 lim 6) (hi : True) (hn : M.1 ≤ lim) {o : (Int32) ⊕ (Int32 × Int32 × Int32)} (h : z_X1_leastCommonSign_10 M p0 a1 a2 a3 a4 a5 = some o) (hK : (KI (fun (q : Int32) => RTX X (some .int) (some (.int q)) M) (fun (t : Int32 × Int32 × Int32) => WS X M 10 [(0, rf X.1 p0), (1, .int a1), (2, .int a2), (3, .int t.1), (4, .int t.2.1), (5, .int t.2.2)] [])) o) : WS X M 10 [(0, rf X.1 p0), (1, .int a1), (2, .int a2), (3, .int a3), (4, .int a4), (5, .int a5)] [] := by
  unfold z_X1_leastCommonSign_10 at h
  refine s_iload (pc := 10) O dX1_leastCommonSign_10 5 rfl ?_
  refine s_sipush (pc := 12) O (v := 1000) dX1_leastCommonSign_12 (by decide) ?_
  refine s_icmp_ge (pc := 15) O (tgt := 48) dX1_leastCommonSign_15 (by decide) (fun c => ?_) (fun c => ?_)
  · have h := ifp c h
    obtain ⟨q0, hq0, ho0⟩ := mpi h; subst ho0; replace h := hq0
    refine s_iload (pc := 48) O dX1_leastCommonSign_48 4 rfl ?_
    refine s_if_eq (pc := 50) O (tgt := 56) dX1_leastCommonSign_50 (by decide) (fun c => ?_) (fun c => ?_)
    · have h := ifp c h
      refine s_iconst (pc := 56) O (v := 0) dX1_leastCommonSign_56 (by decide) ?_
      refine s_istore (pc := 57) O (loc' := [(5, .int 0), (0, rf X.1 p0), (1, .int a1), (2, .int a2), (3, .int a3), (4, .int a4)]) dX1_leastCommonSign_57 (by decide) rfl ?_
      exact s_sub (pc := 59) O [4, 0] rfl (l_X1_leastCommonSign_59 O hi hn h hK)
    · have h := ifn c h
      refine s_bipush (pc := 53) O (v := (-5)) dX1_leastCommonSign_53 (by decide) ?_
      cases h
      exact s_iret (pc := 55) O hK dX1_leastCommonSign_55
  · have h := ifn c h
    refine s_aload_n (pc := 18) O dX1_leastCommonSign_18 rfl 0 rfl ?_
    refine s_iload_n (pc := 19) O dX1_leastCommonSign_19 rfl 1 rfl ?_
    refine s_iload (pc := 20) O dX1_leastCommonSign_20 5 rfl ?_
    refine s_iload_n (pc := 22) O dX1_leastCommonSign_22 rfl 2 rfl ?_
    obtain ⟨v1, e, h⟩ := bd h
    refine s_callVi (pc := 23) O (As := [.int a1, .int a5, .int a2]) kc1 (c_X1_isNear (G := X.1) e) cy_X1_isNear tw_489 tw_491 tw_10 (by decide) rfl (Nat.le_refl _) hn (r_X1_isNear e).1 (r_X1_isNear e).2 rfl (Nat.le_of_ble_eq_true rfl) dX1_leastCommonSign_23 ?_
    refine s_if_eq (pc := 26) O (tgt := 42) dX1_leastCommonSign_26 (by decide) (fun c => ?_) (fun c => ?_)
    · have h := ifp c h
      exact s_sub (pc := 42) O [0, 1, 2, 3, 4, 5] rfl (g_X1_leastCommonSign_42 O hi hn h hK)
    · have h := ifn c h
      refine s_iload_n (pc := 29) O dX1_leastCommonSign_29 rfl 3 rfl ?_
      refine s_aload_n (pc := 30) O dX1_leastCommonSign_30 rfl 0 rfl ?_
      obtain ⟨v2, e, h⟩ := bd h
      refine s_getR (pc := 31) O kc1 (k := 6) rfl tw_110 e dX1_leastCommonSign_31 ?_
      refine s_iload (pc := 34) O dX1_leastCommonSign_34 5 rfl ?_
      obtain ⟨v3, e, h⟩ := bd h
      refine s_aldI (pc := 36) O e dX1_leastCommonSign_36 ?_
      refine s_iand (pc := 37) O dX1_leastCommonSign_37 ?_
      refine s_istore_n (pc := 38) O (loc' := [(3, .int (a3 &&& v3)), (0, rf X.1 p0), (1, .int a1), (2, .int a2), (4, .int a4), (5, .int a5)]) dX1_leastCommonSign_38 rfl (by decide) rfl ?_
      refine s_iconst (pc := 39) O (v := 0) dX1_leastCommonSign_39 (by decide) ?_
      refine s_istore (pc := 40) O (loc' := [(4, .int 0), (3, .int (a3 &&& v3)), (0, rf X.1 p0), (1, .int a1), (2, .int a2), (5, .int a5)]) dX1_leastCommonSign_40 (by decide) rfl ?_
      exact s_sub (pc := 42) O [2, 3, 4, 1, 0, 5] rfl (g_X1_leastCommonSign_42 O hi hn h hK)
set_option maxHeartbeats 4000000 in
set_option maxRecDepth 100000 in
theorem l_X1_leastCommonSign_10 {X : CT} {lim : Nat} {M : MM} {p0 : Nat} {a1 : Int32} {a2 : Int32} {a3 : Int32} {a4 : Int32} {a5 : Int32} (O : OKX X cX1_leastCommonSign RX1 3 lim 6) (hi : True) (hn : M.1 ≤ lim) {o : Int32} {n : Nat} (h : lp (fun t => z_X1_leastCommonSign_10 M p0 a1 a2 t.1 t.2.1 t.2.2) n (a3, a4, a5) = some o) (hK : (fun (q : Int32) => RTX X (some .int) (some (.int q)) M) o) : WS X M 10 [(0, rf X.1 p0), (1, .int a1), (2, .int a2), (3, .int a3), (4, .int a4), (5, .int a5)] [] := by
  refine lp_ind (P := fun (o : Int32) (t : Int32 × Int32 × Int32) => (fun (q : Int32) => RTX X (some .int) (some (.int q)) M) o → WS X M 10 [(0, rf X.1 p0), (1, .int a1), (2, .int a2), (3, .int t.1), (4, .int t.2.1), (5, .int t.2.2)] []) (fun t o hs  hK => ?_) n (a3, a4, a5) o h  hK
  rcases hs with h | ⟨u, h, hu⟩
  · exact b_X1_leastCommonSign_10 O hi hn h hK
  · exact b_X1_leastCommonSign_10 O hi hn h (show KI _ _ (.inr u) from hu hK)
def f_X1_leastCommonSign (M : MM) (p0 : Nat) (a1 : Int32) (a2 : Int32) : Option (Int32) :=
  if p0 < M.1 ∧ kd p0 = 1 then (lp (fun t => z_X1_leastCommonSign_10 M p0 a1 a2 t.1 t.2.1 t.2.2) FU (255, 1, 1)) else none
theorem r_X1_leastCommonSign {M : MM} {p0 : Nat} {a1 : Int32} {a2 : Int32} {o : Int32} (h : f_X1_leastCommonSign M p0 a1 a2 = some o) : p0 < M.1 ∧ kd p0 = 1 := by
  unfold f_X1_leastCommonSign at h
  exact (gd h).1
theorem cy_X1_leastCommonSign : CallY yX1_leastCommonSign cX1_leastCommonSign 6 (some .int) 2 := ⟨by decide +kernel, tw_532, tw_42, by decide⟩
set_option maxHeartbeats 4000000 in
set_option maxRecDepth 100000 in
theorem c_X1_leastCommonSign {G : GG} {M : MM} {p0 : Nat} {a1 : Int32} {a2 : Int32} {r : Int32} (h : f_X1_leastCommonSign M p0 a1 a2 = some r) : Ct G yX1_leastCommonSign cX1_leastCommonSign 6 (some .int) 3 [rf G p0, .int a1, .int a2] M (some (.int r)) M := by
  refine ct_of (by decide +kernel) (Nat.le_of_ble_eq_true rfl) (fun X hX O hK hi0 => ?_)
  subst hX
  obtain ⟨lim, hlim⟩ : ∃ z, z = M.1 := ⟨_, rfl⟩
  rw [← hlim] at O
  replace O : OKX X cX1_leastCommonSign RX1 3 lim 6 := O
  have hi : True := trivial
  have hn : M.1 ≤ lim := Nat.le_of_eq hlim.symm
  show WS X M 0 [(0, rf X.1 p0), (1, .int a1), (2, .int a2)] []
  unfold f_X1_leastCommonSign at h
  obtain ⟨hg0, h⟩ := gd h
  refine s_sipush (pc := 0) O (v := 255) dX1_leastCommonSign_0 (by decide) ?_
  refine s_istore_n (pc := 3) O (loc' := [(3, .int 255), (0, rf X.1 p0), (1, .int a1), (2, .int a2)]) dX1_leastCommonSign_3 rfl (by decide) rfl ?_
  refine s_iconst (pc := 4) O (v := 1) dX1_leastCommonSign_4 (by decide) ?_
  refine s_istore (pc := 5) O (loc' := [(4, .int 1), (3, .int 255), (0, rf X.1 p0), (1, .int a1), (2, .int a2)]) dX1_leastCommonSign_5 (by decide) rfl ?_
  refine s_iconst (pc := 7) O (v := 1) dX1_leastCommonSign_7 (by decide) ?_
  refine s_istore (pc := 8) O (loc' := [(5, .int 1), (4, .int 1), (3, .int 255), (0, rf X.1 p0), (1, .int a1), (2, .int a2)]) dX1_leastCommonSign_8 (by decide) rfl ?_
  exact s_sub (pc := 10) O [3, 4, 5, 2, 1, 0] rfl (l_X1_leastCommonSign_10 O hi hn h hK)

def z_X6_init_47 (lim : Nat) (M : MM) (p0 : Nat) (a1 : Int32) : Option ((MM) ⊕ (Int32 × MM)) :=
  if (2 : Int32) ≤ a1 then (((nObj M lim 4).bind fun M1 => (f_X4_init (M1.1 + 28) M1 M.1).bind fun M2 => if M2.1 = M1.1 + 28 ∧ M1.1 + 28 ≤ lim then ((wfR M2 p0 6 4 M.1).bind fun M3 => (nObj M3 lim 4).bind fun M4 => (f_X4_init (M4.1 + 28) M4 M3.1).bind fun M5 => if M5.1 = M4.1 + 28 ∧ M4.1 + 28 ≤ lim then ((wfR M5 p0 6 5 M3.1).bind fun M6 => (wfJ M6 p0 6 6 0).bind fun M7 => some M7) else none) else none).map .inl) else ((fR M p0 6 3).bind fun v8 => (nObj M lim 0).bind fun M9 => (f_X0_init (M9.1 + 1) M9 M.1).bind fun M10 => if M10.1 = M9.1 + 1 ∧ M9.1 + 1 ≤ lim then ((waR M10 v8 11 0 a1 M.1).bind fun M11 => some ((.inr ((a1 + 1), M11)))) else none)
set_option maxHeartbeats 4000000 in
set_option maxRecDepth 100000 in
theorem b_X6_init_47 {X : CT} {lim : Nat} {M : MM} {p0 : Nat} {a1 : Int32} (O : OKX X cX6_init RX6 3 lim 2) (hi : isInit X) (hn : M.1 ≤ lim) {o : (MM) ⊕ (Int32 × MM)} (h : z_X6_init_47 lim M p0 a1 = some o) (hK : (KI (fun (q : MM) => RTX X none none q) (fun (t : Int32 × MM) => t.2.1 ≤ lim → WS X t.2 47 [(0, rf X.1 p0), (1, .int t.1)] [])) o) : WS X M 47 [(0, rf X.1 p0), (1, .int a1)] [] := by
  unfold z_X6_init_47 at h
  refine s_iload_n (pc := 47) O dX6_init_47 rfl 1 rfl ?_
  refine s_iconst (pc := 48) O (v := 2) dX6_init_48 (by decide) ?_
  refine s_icmp_ge (pc := 49) O (tgt := 71) dX6_init_49 (by decide) (fun c => ?_) (fun c => ?_)
  · have h := ifp c h
    obtain ⟨q0, hq0, ho0⟩ := mpi h; subst ho0; replace h := hq0
    refine s_aload_n (pc := 71) O dX6_init_71 rfl 0 rfl ?_
    obtain ⟨M1, e, h⟩ := bd h
    refine s_new (pc := 72) O kc4 (by decide) tw_170 tw_171 tw_44 e dX6_init_72 ?_
    have hn : M1.1 ≤ lim := nObj_n e
    refine s_dup (pc := 75) O dX6_init_75 rfl ?_
    obtain ⟨M2, e, h⟩ := bd h
    obtain ⟨hg, h⟩ := gd h
    rw [← hg.1] at e
    refine s_callIv (pc := 76) O (As := []) (c_X4_init (G := X.1) e (by rw [hg.1]; omega)) cy_X4_init tw_172 tw_173 rfl (by decide) rfl (by rw [hg.1]; omega) (by rw [hg.1]; exact hg.2) rfl (Nat.le_of_ble_eq_true rfl) dX6_init_76 ?_
    have hn : M2.1 ≤ lim := by rw [hg.1]; exact hg.2
    obtain ⟨M3, e, h⟩ := bd h
    refine s_putR (pc := 79) O kc6 (k := 4) rfl (Or.inl ⟨_, rfl⟩) rfl tw_253 e dX6_init_79 ?_
    have hn : M3.1 ≤ lim := by rw [wfR_n e]; exact hn
    refine s_aload_n (pc := 82) O dX6_init_82 rfl 0 rfl ?_
    obtain ⟨M4, e, h⟩ := bd h
    refine s_new (pc := 83) O kc4 (by decide) tw_170 tw_171 tw_44 e dX6_init_83 ?_
    have hn : M4.1 ≤ lim := nObj_n e
    refine s_dup (pc := 86) O dX6_init_86 rfl ?_
    obtain ⟨M5, e, h⟩ := bd h
    obtain ⟨hg, h⟩ := gd h
    rw [← hg.1] at e
    refine s_callIv (pc := 87) O (As := []) (c_X4_init (G := X.1) e (by rw [hg.1]; omega)) cy_X4_init tw_172 tw_173 rfl (by decide) rfl (by rw [hg.1]; omega) (by rw [hg.1]; exact hg.2) rfl (Nat.le_of_ble_eq_true rfl) dX6_init_87 ?_
    have hn : M5.1 ≤ lim := by rw [hg.1]; exact hg.2
    obtain ⟨M6, e, h⟩ := bd h
    refine s_putR (pc := 90) O kc6 (k := 5) rfl (Or.inl ⟨_, rfl⟩) rfl tw_254 e dX6_init_90 ?_
    have hn : M6.1 ≤ lim := by rw [wfR_n e]; exact hn
    refine s_aload_n (pc := 93) O dX6_init_93 rfl 0 rfl ?_
    refine s_lconst (pc := 94) O (v := 0) dX6_init_94 (by decide) ?_
    obtain ⟨M7, e, h⟩ := bd h
    refine s_putJ (pc := 95) O kc6 (k := 6) rfl rfl rfl tw_255 e dX6_init_95 ?_
    have hn : M7.1 ≤ lim := by rw [wfJ_n e]; exact hn
    cases h
    exact s_vret (pc := 98) O hK dX6_init_98
  · have h := ifn c h
    refine s_aload_n (pc := 52) O dX6_init_52 rfl 0 rfl ?_
    obtain ⟨v8, e, h⟩ := bd h
    refine s_getR (pc := 53) O kc6 (k := 3) rfl tw_252 e dX6_init_53 ?_
    refine s_iload_n (pc := 56) O dX6_init_56 rfl 1 rfl ?_
    obtain ⟨M9, e, h⟩ := bd h
    refine s_new (pc := 57) O kc0 (by decide) tw_151 tw_152 tw_43 e dX6_init_57 ?_
    have hn : M9.1 ≤ lim := nObj_n e
    refine s_dup (pc := 60) O dX6_init_60 rfl ?_
    obtain ⟨M10, e, h⟩ := bd h
    obtain ⟨hg, h⟩ := gd h
    rw [← hg.1] at e
    refine s_callINv (pc := 61) O (As := []) (c_X0_init (G := X.1) e (by rw [hg.1]; omega)) cy_X0_init nw_2 tw_154 rfl (by decide) rfl (by rw [hg.1]; omega) (by rw [hg.1]; exact hg.2) rfl (Nat.le_of_ble_eq_true rfl) dX6_init_61 ?_
    have hn : M10.1 ≤ lim := by rw [hg.1]; exact hg.2
    obtain ⟨M11, e, h⟩ := bd h
    refine s_astR11 (pc := 64) O e dX6_init_64 ?_
    have hn : M11.1 ≤ lim := by rw [waR_n e]; exact hn
    refine s_iinc (pc := 65) O (v := (a1 + 1)) (loc' := [(1, .int (a1 + 1)), (0, rf X.1 p0)]) dX6_init_65 1 rfl rfl (by decide) rfl ?_
    refine s_goto (pc := 68) O (tgt := 47) dX6_init_68 (by decide) ?_
    cases h
    exact s_sub (pc := 47) O [1, 0] rfl (hK hn)
set_option maxHeartbeats 4000000 in
set_option maxRecDepth 100000 in
theorem l_X6_init_47 {X : CT} {lim : Nat} {M : MM} {p0 : Nat} {a1 : Int32} (O : OKX X cX6_init RX6 3 lim 2) (hi : isInit X) (hn : M.1 ≤ lim) {o : MM} {n : Nat} (h : lp (fun t => z_X6_init_47 lim t.2 p0 t.1) n (a1, M) = some o) (hK : (fun (q : MM) => RTX X none none q) o) : WS X M 47 [(0, rf X.1 p0), (1, .int a1)] [] := by
  refine lp_ind (P := fun (o : MM) (t : Int32 × MM) => t.2.1 ≤ lim → (fun (q : MM) => RTX X none none q) o → WS X t.2 47 [(0, rf X.1 p0), (1, .int t.1)] []) (fun t o hs hn hK => ?_) n (a1, M) o h hn hK
  rcases hs with h | ⟨u, h, hu⟩
  · exact b_X6_init_47 O hi hn h hK
  · exact b_X6_init_47 O hi hn h (show KI _ _ (.inr u) from fun hn => hu hn hK)
def f_X6_init (lim : Nat) (M : MM) (p0 : Nat) : Option (MM) :=
  if p0 < M.1 ∧ kd p0 = 6 then ((nObj M lim 3).bind fun M1 => (f_X3_init (M1.1 + 1) M1 M.1).bind fun M2 => if M2.1 = M1.1 + 1 ∧ M1.1 + 1 ≤ lim then ((wfR M2 p0 6 0 M.1).bind fun M3 => (nObj M3 lim 1).bind fun M4 => (f_X1_init (M4.1 + 12) M4 M3.1).bind fun M5 => if M5.1 = M4.1 + 12 ∧ M4.1 + 12 ≤ lim then ((wfR M5 p0 6 1 M3.1).bind fun M6 => (nObj M6 lim 0).bind fun M7 => (f_X0_init (M7.1 + 1) M7 M6.1).bind fun M8 => if M8.1 = M7.1 + 1 ∧ M7.1 + 1 ≤ lim then ((wfR M8 p0 6 2 M6.1).bind fun M9 => (nArr M9 lim 11 2).bind fun M10 => (wfR M10 p0 6 3 M9.1).bind fun M11 => lp (fun t => z_X6_init_47 lim t.2 p0 t.1) FU (0, M11)) else none) else none) else none) else none
theorem r_X6_init {lim : Nat} {M : MM} {p0 : Nat} {o : MM} (h : f_X6_init lim M p0 = some o) : p0 < M.1 ∧ kd p0 = 6 := by
  unfold f_X6_init at h
  exact (gd h).1
theorem cy_X6_init : CallY yX6_init cX6_init 2 (none) 0 := ⟨by decide +kernel, tw_58, tw_40, by decide⟩
set_option maxHeartbeats 4000000 in
set_option maxRecDepth 100000 in
theorem c_X6_init {G : GG} {M : MM} {p0 : Nat} {M' : MM} (h : f_X6_init M'.1 M p0 = some M') (hn : M.1 ≤ M'.1) : Ct G yX6_init cX6_init 2 (none) 3 [rf G p0] M (none) M' := by
  refine ct_of (by decide +kernel) (Nat.le_of_ble_eq_true rfl) (fun X hX O hK hi0 => ?_)
  subst hX
  obtain ⟨lim, hlim⟩ : ∃ z, z = M'.1 := ⟨_, rfl⟩
  rw [← hlim] at O hn h
  replace O : OKX X cX6_init RX6 3 lim 2 := O
  have hi : isInit X := hi0 rfl
  show WS X M 0 [(0, rf X.1 p0)] []
  unfold f_X6_init at h
  obtain ⟨hg0, h⟩ := gd h
  refine s_aload_n (pc := 0) O dX6_init_0 rfl 0 rfl ?_
  refine s_objInit (pc := 1) O tw_59 tw_60 tw_61 (by decide) (Nat.le_of_ble_eq_true rfl) dX6_init_1 ?_
  refine s_aload_n (pc := 4) O dX6_init_4 rfl 0 rfl ?_
  obtain ⟨M1, e, h⟩ := bd h
  refine s_new (pc := 5) O kc3 (by decide) tw_62 tw_63 tw_41 e dX6_init_5 ?_
  have hn : M1.1 ≤ lim := nObj_n e
  refine s_dup (pc := 8) O dX6_init_8 rfl ?_
  obtain ⟨M2, e, h⟩ := bd h
  obtain ⟨hg, h⟩ := gd h
  rw [← hg.1] at e
  refine s_callINv (pc := 9) O (As := []) (c_X3_init (G := X.1) e (by rw [hg.1]; omega)) cy_X3_init nw_0 tw_65 rfl (by decide) rfl (by rw [hg.1]; omega) (by rw [hg.1]; exact hg.2) rfl (Nat.le_of_ble_eq_true rfl) dX6_init_9 ?_
  have hn : M2.1 ≤ lim := by rw [hg.1]; exact hg.2
  obtain ⟨M3, e, h⟩ := bd h
  refine s_putRF (pc := 12) O kc6 (k := 0) rfl (Or.inl ⟨_, rfl⟩) rfl hi rfl tw_249 e dX6_init_12 ?_
  have hn : M3.1 ≤ lim := by rw [wfR_n e]; exact hn
  refine s_aload_n (pc := 15) O dX6_init_15 rfl 0 rfl ?_
  obtain ⟨M4, e, h⟩ := bd h
  refine s_new (pc := 16) O kc1 (by decide) tw_95 tw_96 tw_42 e dX6_init_16 ?_
  have hn : M4.1 ≤ lim := nObj_n e
  refine s_dup (pc := 19) O dX6_init_19 rfl ?_
  obtain ⟨M5, e, h⟩ := bd h
  obtain ⟨hg, h⟩ := gd h
  rw [← hg.1] at e
  refine s_callINv (pc := 20) O (As := []) (c_X1_init (G := X.1) e (by rw [hg.1]; omega)) cy_X1_init nw_1 tw_98 rfl (by decide) rfl (by rw [hg.1]; omega) (by rw [hg.1]; exact hg.2) rfl (Nat.le_of_ble_eq_true rfl) dX6_init_20 ?_
  have hn : M5.1 ≤ lim := by rw [hg.1]; exact hg.2
  obtain ⟨M6, e, h⟩ := bd h
  refine s_putRF (pc := 23) O kc6 (k := 1) rfl (Or.inl ⟨_, rfl⟩) rfl hi rfl tw_250 e dX6_init_23 ?_
  have hn : M6.1 ≤ lim := by rw [wfR_n e]; exact hn
  refine s_aload_n (pc := 26) O dX6_init_26 rfl 0 rfl ?_
  obtain ⟨M7, e, h⟩ := bd h
  refine s_new (pc := 27) O kc0 (by decide) tw_151 tw_152 tw_43 e dX6_init_27 ?_
  have hn : M7.1 ≤ lim := nObj_n e
  refine s_dup (pc := 30) O dX6_init_30 rfl ?_
  obtain ⟨M8, e, h⟩ := bd h
  obtain ⟨hg, h⟩ := gd h
  rw [← hg.1] at e
  refine s_callINv (pc := 31) O (As := []) (c_X0_init (G := X.1) e (by rw [hg.1]; omega)) cy_X0_init nw_2 tw_154 rfl (by decide) rfl (by rw [hg.1]; omega) (by rw [hg.1]; exact hg.2) rfl (Nat.le_of_ble_eq_true rfl) dX6_init_31 ?_
  have hn : M8.1 ≤ lim := by rw [hg.1]; exact hg.2
  obtain ⟨M9, e, h⟩ := bd h
  refine s_putRF (pc := 34) O kc6 (k := 2) rfl (Or.inl ⟨_, rfl⟩) rfl hi rfl tw_251 e dX6_init_34 ?_
  have hn : M9.1 ≤ lim := by rw [wfR_n e]; exact hn
  refine s_aload_n (pc := 37) O dX6_init_37 rfl 0 rfl ?_
  refine s_iconst (pc := 38) O (v := 2) dX6_init_38 (by decide) ?_
  obtain ⟨M10, e, h⟩ := bd h
  refine s_newq11 (pc := 39) O tw_151 (ln_small _) e dX6_init_39 ?_
  have hn : M10.1 ≤ lim := nArr_n e
  obtain ⟨M11, e, h⟩ := bd h
  refine s_putRF (pc := 42) O kc6 (k := 3) rfl (Or.inr ⟨_, rfl⟩) rfl hi rfl tw_252 e dX6_init_42 ?_
  have hn : M11.1 ≤ lim := by rw [wfR_n e]; exact hn
  refine s_iconst (pc := 45) O (v := 0) dX6_init_45 (by decide) ?_
  refine s_istore_n (pc := 46) O (loc' := [(1, .int 0), (0, rf X.1 p0)]) dX6_init_46 rfl (by decide) rfl ?_
  exact s_sub (pc := 47) O [1, 0] rfl (l_X6_init_47 O hi hn h hK)

def f_X6_rate (M : MM) (p0 : Nat) (a1 : Int32) (a2 : Int32) : Option (Int32 × MM) :=
  if p0 < M.1 ∧ kd p0 = 6 then ((f_X6_isWord M p0 a2).bind fun v1 => if v1 = 0 then (some (((-1000000), M))) else (if a1 = 0 then ((f_X6_rateWord M p0 a2).bind fun v2 => if v2.2.1 = M.1 then (some ((v2.1, v2.2))) else none) else (if a1 = 1 then ((f_X6_rateVow M p0 a2).bind fun v3 => if v3.2.1 = M.1 then (some ((v3.1, v3.2))) else none) else (if a1 = 2 then ((f_X6_rateBill M p0 a2).bind fun v4 => if v4.2.1 = M.1 then (some ((v4.1, v4.2))) else none) else (if a1 = 3 then ((f_X6_rateVerse M p0 a2).bind fun v5 => if v5.2.1 = M.1 then (some ((v5.1, v5.2))) else none) else (if a1 = 4 then ((f_X6_rateInsult M p0 a2).bind fun v6 => if v6.2.1 = M.1 then (some ((v6.1, v6.2))) else none) else (if a1 = 5 then ((f_X6_rateThreat M p0 a2).bind fun v7 => if v7.2.1 = M.1 then (some ((v7.1, v7.2))) else none) else (some (((-1000000), M)))))))))) else none
theorem r_X6_rate {M : MM} {p0 : Nat} {a1 : Int32} {a2 : Int32} {o : Int32 × MM} (h : f_X6_rate M p0 a1 a2 = some o) : p0 < M.1 ∧ kd p0 = 6 := by
  unfold f_X6_rate at h
  exact (gd h).1
theorem cy_X6_rate : CallY yX6_rate cX6_rate 3 (some .int) 2 := ⟨by decide +kernel, tw_581, tw_40, by decide⟩
set_option maxHeartbeats 4000000 in
set_option maxRecDepth 100000 in
theorem c_X6_rate {G : GG} {M : MM} {p0 : Nat} {a1 : Int32} {a2 : Int32} {r : Int32} {M' : MM} (h : f_X6_rate M p0 a1 a2 = some (r, M')) (hn : M.1 ≤ M'.1) : Ct G yX6_rate cX6_rate 3 (some .int) 3 [rf G p0, .int a1, .int a2] M (some (.int r)) M' := by
  refine ct_of (by decide +kernel) (Nat.le_of_ble_eq_true rfl) (fun X hX O hK hi0 => ?_)
  subst hX
  obtain ⟨lim, hlim⟩ : ∃ z, z = M'.1 := ⟨_, rfl⟩
  rw [← hlim] at O hn
  replace O : OKX X cX6_rate RX6 3 lim 3 := O
  have hi : True := trivial
  show WS X M 0 [(0, rf X.1 p0), (1, .int a1), (2, .int a2)] []
  replace hK : (fun (q : Int32 × MM) => RTX X (some .int) (some (.int q.1)) q.2) (r, M') := hK
  generalize (r, M') = o at h hK
  unfold f_X6_rate at h
  obtain ⟨hg0, h⟩ := gd h
  refine s_aload_n (pc := 0) O dX6_rate_0 rfl 0 rfl ?_
  refine s_iload_n (pc := 1) O dX6_rate_1 rfl 2 rfl ?_
  obtain ⟨v1, e, h⟩ := bd h
  refine s_callVi (pc := 2) O (As := [.int a2]) kc6 (c_X6_isWord (G := X.1) e) cy_X6_isWord tw_411 tw_413 tw_8 (by decide) rfl (Nat.le_refl _) hn (r_X6_isWord e).1 (r_X6_isWord e).2 rfl (Nat.le_of_ble_eq_true rfl) dX6_rate_2 ?_
  refine s_if_ne (pc := 5) O (tgt := 11) dX6_rate_5 (by decide) (fun c => ?_) (fun c => ?_)
  · have h := ifn c h
    refine s_iload_n (pc := 11) O dX6_rate_11 rfl 1 rfl ?_
    obtain ⟨x, hx⟩ : ∃ y : Int32, y = a1 := ⟨_, rfl⟩
    rw [← hx] at h ⊢
    by_cases c0 : x = 0
    · have h := ifp c0 h
      subst c0
      refine s_tabIn (pc := 12) O (tgt := 52) dX6_rate_12 (by decide) (by decide) rfl (by decide) ?_
      refine s_aload_n (pc := 52) O dX6_rate_52 rfl 0 rfl ?_
      refine s_iload_n (pc := 53) O dX6_rate_53 rfl 2 rfl ?_
      obtain ⟨v2, e, h⟩ := bd h
      obtain ⟨hg, h⟩ := gd h
      refine s_callVi (pc := 54) O (As := [.int a2]) kc6 (c_X6_rateWord (G := X.1) e (Nat.le_of_eq hg.symm)) cy_X6_rateWord tw_583 tw_585 tw_12 (by decide) rfl (Nat.le_of_eq hg.symm) (by rw [hg]; exact hn) (r_X6_rateWord e).1 (r_X6_rateWord e).2 rfl (Nat.le_of_ble_eq_true rfl) dX6_rate_54 ?_
      have hn : v2.2.1 ≤ lim := by rw [hg]; exact hn
      cases h
      exact s_iret (pc := 57) O hK dX6_rate_57
    have h := ifn c0 h
    by_cases c1 : x = 1
    · have h := ifp c1 h
      subst c1
      refine s_tabIn (pc := 12) O (tgt := 58) dX6_rate_12 (by decide) (by decide) rfl (by decide) ?_
      refine s_aload_n (pc := 58) O dX6_rate_58 rfl 0 rfl ?_
      refine s_iload_n (pc := 59) O dX6_rate_59 rfl 2 rfl ?_
      obtain ⟨v3, e, h⟩ := bd h
      obtain ⟨hg, h⟩ := gd h
      refine s_callVi (pc := 60) O (As := [.int a2]) kc6 (c_X6_rateVow (G := X.1) e (Nat.le_of_eq hg.symm)) cy_X6_rateVow tw_587 tw_589 tw_13 (by decide) rfl (Nat.le_of_eq hg.symm) (by rw [hg]; exact hn) (r_X6_rateVow e).1 (r_X6_rateVow e).2 rfl (Nat.le_of_ble_eq_true rfl) dX6_rate_60 ?_
      have hn : v3.2.1 ≤ lim := by rw [hg]; exact hn
      cases h
      exact s_iret (pc := 63) O hK dX6_rate_63
    have h := ifn c1 h
    by_cases c2 : x = 2
    · have h := ifp c2 h
      subst c2
      refine s_tabIn (pc := 12) O (tgt := 64) dX6_rate_12 (by decide) (by decide) rfl (by decide) ?_
      refine s_aload_n (pc := 64) O dX6_rate_64 rfl 0 rfl ?_
      refine s_iload_n (pc := 65) O dX6_rate_65 rfl 2 rfl ?_
      obtain ⟨v4, e, h⟩ := bd h
      obtain ⟨hg, h⟩ := gd h
      refine s_callVi (pc := 66) O (As := [.int a2]) kc6 (c_X6_rateBill (G := X.1) e (Nat.le_of_eq hg.symm)) cy_X6_rateBill tw_592 tw_594 tw_14 (by decide) rfl (Nat.le_of_eq hg.symm) (by rw [hg]; exact hn) (r_X6_rateBill e).1 (r_X6_rateBill e).2 rfl (Nat.le_of_ble_eq_true rfl) dX6_rate_66 ?_
      have hn : v4.2.1 ≤ lim := by rw [hg]; exact hn
      cases h
      exact s_iret (pc := 69) O hK dX6_rate_69
    have h := ifn c2 h
    by_cases c3 : x = 3
    · have h := ifp c3 h
      subst c3
      refine s_tabIn (pc := 12) O (tgt := 70) dX6_rate_12 (by decide) (by decide) rfl (by decide) ?_
      refine s_aload_n (pc := 70) O dX6_rate_70 rfl 0 rfl ?_
      refine s_iload_n (pc := 71) O dX6_rate_71 rfl 2 rfl ?_
      obtain ⟨v5, e, h⟩ := bd h
      obtain ⟨hg, h⟩ := gd h
      refine s_callVi (pc := 72) O (As := [.int a2]) kc6 (c_X6_rateVerse (G := X.1) e (Nat.le_of_eq hg.symm)) cy_X6_rateVerse tw_597 tw_599 tw_15 (by decide) rfl (Nat.le_of_eq hg.symm) (by rw [hg]; exact hn) (r_X6_rateVerse e).1 (r_X6_rateVerse e).2 rfl (Nat.le_of_ble_eq_true rfl) dX6_rate_72 ?_
      have hn : v5.2.1 ≤ lim := by rw [hg]; exact hn
      cases h
      exact s_iret (pc := 75) O hK dX6_rate_75
    have h := ifn c3 h
    by_cases c4 : x = 4
    · have h := ifp c4 h
      subst c4
      refine s_tabIn (pc := 12) O (tgt := 76) dX6_rate_12 (by decide) (by decide) rfl (by decide) ?_
      refine s_aload_n (pc := 76) O dX6_rate_76 rfl 0 rfl ?_
      refine s_iload_n (pc := 77) O dX6_rate_77 rfl 2 rfl ?_
      obtain ⟨v6, e, h⟩ := bd h
      obtain ⟨hg, h⟩ := gd h
      refine s_callVi (pc := 78) O (As := [.int a2]) kc6 (c_X6_rateInsult (G := X.1) e (Nat.le_of_eq hg.symm)) cy_X6_rateInsult tw_602 tw_604 tw_16 (by decide) rfl (Nat.le_of_eq hg.symm) (by rw [hg]; exact hn) (r_X6_rateInsult e).1 (r_X6_rateInsult e).2 rfl (Nat.le_of_ble_eq_true rfl) dX6_rate_78 ?_
      have hn : v6.2.1 ≤ lim := by rw [hg]; exact hn
      cases h
      exact s_iret (pc := 81) O hK dX6_rate_81
    have h := ifn c4 h
    by_cases c5 : x = 5
    · have h := ifp c5 h
      subst c5
      refine s_tabIn (pc := 12) O (tgt := 82) dX6_rate_12 (by decide) (by decide) rfl (by decide) ?_
      refine s_aload_n (pc := 82) O dX6_rate_82 rfl 0 rfl ?_
      refine s_iload_n (pc := 83) O dX6_rate_83 rfl 2 rfl ?_
      obtain ⟨v7, e, h⟩ := bd h
      obtain ⟨hg, h⟩ := gd h
      refine s_callVi (pc := 84) O (As := [.int a2]) kc6 (c_X6_rateThreat (G := X.1) e (Nat.le_of_eq hg.symm)) cy_X6_rateThreat tw_607 tw_609 tw_17 (by decide) rfl (Nat.le_of_eq hg.symm) (by rw [hg]; exact hn) (r_X6_rateThreat e).1 (r_X6_rateThreat e).2 rfl (Nat.le_of_ble_eq_true rfl) dX6_rate_84 ?_
      have hn : v7.2.1 ≤ lim := by rw [hg]; exact hn
      cases h
      exact s_iret (pc := 87) O hK dX6_rate_87
    have h := ifn c5 h
    refine s_tabOut (pc := 12) O (tgt := 88) dX6_rate_12 (by have := i32_neK (n := 0) (by decide) c0; have := i32_neK (n := 1) (by decide) c1; have := i32_neK (n := 2) (by decide) c2; have := i32_neK (n := 3) (by decide) c3; have := i32_neK (n := 4) (by decide) c4; have := i32_neK (n := 5) (by decide) c5; omega) (by decide) ?_
    refine s_ldc (pc := 88) O dX6_rate_88 tw_582 ?_
    cases h
    exact s_iret (pc := 90) O hK dX6_rate_90
  · have h := ifp c h
    refine s_ldc (pc := 8) O dX6_rate_8 tw_582 ?_
    cases h
    exact s_iret (pc := 10) O hK dX6_rate_10

def f_X6_answers (M : MM) (p0 : Nat) (a1 : Int32) (a2 : Int32) (a3 : Int32) : Option (Int32) :=
  if p0 < M.1 ∧ kd p0 = 6 then ((fR M p0 6 1).bind fun v1 => (f_X1_canBeSaid M v1 a1).bind fun v2 => if v2 = 0 then (some ((-1))) else ((f_X6_isSlack M a2).bind fun v3 => if v3 = 0 then (some ((-1))) else (if a3 < 0 then (some ((-1))) else (if a3 ≤ 1 then (if a3 = 0 then ((fR M p0 6 1).bind fun v6 => (f_X1_countAnswers M v6 a1 a2).bind fun v7 => some v7) else ((fR M p0 6 1).bind fun v4 => (f_X1_findBest M v4 a1 a2).bind fun v5 => some v5)) else (some ((-1))))))) else none
theorem r_X6_answers {M : MM} {p0 : Nat} {a1 : Int32} {a2 : Int32} {a3 : Int32} {o : Int32} (h : f_X6_answers M p0 a1 a2 a3 = some o) : p0 < M.1 ∧ kd p0 = 6 := by
  unfold f_X6_answers at h
  exact (gd h).1
theorem cy_X6_answers : CallY yX6_answers cX6_answers 4 (some .int) 3 := ⟨by decide +kernel, tw_481, tw_40, by decide⟩
set_option maxHeartbeats 4000000 in
set_option maxRecDepth 100000 in
theorem c_X6_answers {G : GG} {M : MM} {p0 : Nat} {a1 : Int32} {a2 : Int32} {a3 : Int32} {r : Int32} (h : f_X6_answers M p0 a1 a2 a3 = some r) : Ct G yX6_answers cX6_answers 4 (some .int) 4 [rf G p0, .int a1, .int a2, .int a3] M (some (.int r)) M := by
  refine ct_of (by decide +kernel) (Nat.le_of_ble_eq_true rfl) (fun X hX O hK hi0 => ?_)
  subst hX
  obtain ⟨lim, hlim⟩ : ∃ z, z = M.1 := ⟨_, rfl⟩
  rw [← hlim] at O
  replace O : OKX X cX6_answers RX6 4 lim 4 := O
  have hi : True := trivial
  have hn : M.1 ≤ lim := Nat.le_of_eq hlim.symm
  show WS X M 0 [(0, rf X.1 p0), (1, .int a1), (2, .int a2), (3, .int a3)] []
  unfold f_X6_answers at h
  obtain ⟨hg0, h⟩ := gd h
  refine s_aload_n (pc := 0) O dX6_answers_0 rfl 0 rfl ?_
  obtain ⟨v1, e, h⟩ := bd h
  refine s_getR (pc := 1) O kc6 (k := 1) rfl tw_250 e dX6_answers_1 ?_
  refine s_iload_n (pc := 4) O dX6_answers_4 rfl 1 rfl ?_
  obtain ⟨v2, e, h⟩ := bd h
  refine s_callVi (pc := 5) O (As := [.int a1]) kc1 (c_X1_canBeSaid (G := X.1) e) cy_X1_canBeSaid tw_431 tw_432 tw_433 (by decide) rfl (Nat.le_refl _) hn (r_X1_canBeSaid e).1 (r_X1_canBeSaid e).2 rfl (Nat.le_of_ble_eq_true rfl) dX6_answers_5 ?_
  refine s_if_eq (pc := 8) O (tgt := 27) dX6_answers_8 (by decide) (fun c => ?_) (fun c => ?_)
  · have h := ifp c h
    refine s_iconst (pc := 27) O (v := (-1)) dX6_answers_27 (by decide) ?_
    cases h
    exact s_iret (pc := 28) O hK dX6_answers_28
  · have h := ifn c h
    refine s_iload_n (pc := 11) O dX6_answers_11 rfl 2 rfl ?_
    obtain ⟨v3, e, h⟩ := bd h
    refine s_callSi (pc := 12) O (As := [.int a2]) (c_X6_isSlack (G := X.1) e) cy_X6_isSlack tw_482 tw_483 (by decide) rfl (Nat.le_refl _) hn rfl (Nat.le_of_ble_eq_true rfl) dX6_answers_12 ?_
    refine s_if_eq (pc := 15) O (tgt := 27) dX6_answers_15 (by decide) (fun c => ?_) (fun c => ?_)
    · have h := ifp c h
      refine s_iconst (pc := 27) O (v := (-1)) dX6_answers_27 (by decide) ?_
      cases h
      exact s_iret (pc := 28) O hK dX6_answers_28
    · have h := ifn c h
      refine s_iload_n (pc := 18) O dX6_answers_18 rfl 3 rfl ?_
      refine s_if_lt (pc := 19) O (tgt := 27) dX6_answers_19 (by decide) (fun c => ?_) (fun c => ?_)
      · have h := ifp c h
        refine s_iconst (pc := 27) O (v := (-1)) dX6_answers_27 (by decide) ?_
        cases h
        exact s_iret (pc := 28) O hK dX6_answers_28
      · have h := ifn c h
        refine s_iload_n (pc := 22) O dX6_answers_22 rfl 3 rfl ?_
        refine s_iconst (pc := 23) O (v := 1) dX6_answers_23 (by decide) ?_
        refine s_icmp_le (pc := 24) O (tgt := 29) dX6_answers_24 (by decide) (fun c => ?_) (fun c => ?_)
        · have h := ifp c h
          refine s_iload_n (pc := 29) O dX6_answers_29 rfl 3 rfl ?_
          refine s_if_ne (pc := 30) O (tgt := 45) dX6_answers_30 (by decide) (fun c => ?_) (fun c => ?_)
          · have h := ifn c h
            refine s_aload_n (pc := 45) O dX6_answers_45 rfl 0 rfl ?_
            obtain ⟨v4, e, h⟩ := bd h
            refine s_getR (pc := 46) O kc6 (k := 1) rfl tw_250 e dX6_answers_46 ?_
            refine s_iload_n (pc := 49) O dX6_answers_49 rfl 1 rfl ?_
            refine s_iload_n (pc := 50) O dX6_answers_50 rfl 2 rfl ?_
            obtain ⟨v5, e, h⟩ := bd h
            refine s_callVi (pc := 51) O (As := [.int a1, .int a2]) kc1 (c_X1_findBest (G := X.1) e) cy_X1_findBest tw_501 tw_502 tw_503 (by decide) rfl (Nat.le_refl _) hn (r_X1_findBest e).1 (r_X1_findBest e).2 rfl (Nat.le_of_ble_eq_true rfl) dX6_answers_51 ?_
            cases h
            exact s_iret (pc := 54) O hK dX6_answers_54
          · have h := ifp c h
            refine s_aload_n (pc := 33) O dX6_answers_33 rfl 0 rfl ?_
            obtain ⟨v6, e, h⟩ := bd h
            refine s_getR (pc := 34) O kc6 (k := 1) rfl tw_250 e dX6_answers_34 ?_
            refine s_iload_n (pc := 37) O dX6_answers_37 rfl 1 rfl ?_
            refine s_iload_n (pc := 38) O dX6_answers_38 rfl 2 rfl ?_
            obtain ⟨v7, e, h⟩ := bd h
            refine s_callVi (pc := 39) O (As := [.int a1, .int a2]) kc1 (c_X1_countAnswers (G := X.1) e) cy_X1_countAnswers tw_485 tw_486 tw_487 (by decide) rfl (Nat.le_refl _) hn (r_X1_countAnswers e).1 (r_X1_countAnswers e).2 rfl (Nat.le_of_ble_eq_true rfl) dX6_answers_39 ?_
            refine s_goto (pc := 42) O (tgt := 54) dX6_answers_42 (by decide) ?_
            cases h
            exact s_iret (pc := 54) O hK dX6_answers_54
        · have h := ifn c h
          refine s_iconst (pc := 27) O (v := (-1)) dX6_answers_27 (by decide) ?_
          cases h
          exact s_iret (pc := 28) O hK dX6_answers_28

def f_X6_bar (M : MM) (p0 : Nat) (a1 : Int32) (a2 : Int32) : Option (Int32) :=
  if p0 < M.1 ∧ kd p0 = 6 then ((fR M p0 6 1).bind fun v1 => (f_X1_canBeSaid M v1 a1).bind fun v2 => if v2 = 0 then (some ((-1))) else ((f_X6_isSlack M a2).bind fun v3 => if v3 = 0 then (some ((-1))) else ((fR M p0 6 1).bind fun v4 => (f_X1_leastCommonSign M v4 a1 a2).bind fun v5 => some v5))) else none
theorem r_X6_bar {M : MM} {p0 : Nat} {a1 : Int32} {a2 : Int32} {o : Int32} (h : f_X6_bar M p0 a1 a2 = some o) : p0 < M.1 ∧ kd p0 = 6 := by
  unfold f_X6_bar at h
  exact (gd h).1
theorem cy_X6_bar : CallY yX6_bar cX6_bar 3 (some .int) 2 := ⟨by decide +kernel, tw_528, tw_40, by decide⟩
set_option maxHeartbeats 4000000 in
set_option maxRecDepth 100000 in
theorem c_X6_bar {G : GG} {M : MM} {p0 : Nat} {a1 : Int32} {a2 : Int32} {r : Int32} (h : f_X6_bar M p0 a1 a2 = some r) : Ct G yX6_bar cX6_bar 3 (some .int) 4 [rf G p0, .int a1, .int a2] M (some (.int r)) M := by
  refine ct_of (by decide +kernel) (Nat.le_of_ble_eq_true rfl) (fun X hX O hK hi0 => ?_)
  subst hX
  obtain ⟨lim, hlim⟩ : ∃ z, z = M.1 := ⟨_, rfl⟩
  rw [← hlim] at O
  replace O : OKX X cX6_bar RX6 4 lim 3 := O
  have hi : True := trivial
  have hn : M.1 ≤ lim := Nat.le_of_eq hlim.symm
  show WS X M 0 [(0, rf X.1 p0), (1, .int a1), (2, .int a2)] []
  unfold f_X6_bar at h
  obtain ⟨hg0, h⟩ := gd h
  refine s_aload_n (pc := 0) O dX6_bar_0 rfl 0 rfl ?_
  obtain ⟨v1, e, h⟩ := bd h
  refine s_getR (pc := 1) O kc6 (k := 1) rfl tw_250 e dX6_bar_1 ?_
  refine s_iload_n (pc := 4) O dX6_bar_4 rfl 1 rfl ?_
  obtain ⟨v2, e, h⟩ := bd h
  refine s_callVi (pc := 5) O (As := [.int a1]) kc1 (c_X1_canBeSaid (G := X.1) e) cy_X1_canBeSaid tw_431 tw_432 tw_433 (by decide) rfl (Nat.le_refl _) hn (r_X1_canBeSaid e).1 (r_X1_canBeSaid e).2 rfl (Nat.le_of_ble_eq_true rfl) dX6_bar_5 ?_
  refine s_if_eq (pc := 8) O (tgt := 18) dX6_bar_8 (by decide) (fun c => ?_) (fun c => ?_)
  · have h := ifp c h
    refine s_iconst (pc := 18) O (v := (-1)) dX6_bar_18 (by decide) ?_
    cases h
    exact s_iret (pc := 19) O hK dX6_bar_19
  · have h := ifn c h
    refine s_iload_n (pc := 11) O dX6_bar_11 rfl 2 rfl ?_
    obtain ⟨v3, e, h⟩ := bd h
    refine s_callSi (pc := 12) O (As := [.int a2]) (c_X6_isSlack (G := X.1) e) cy_X6_isSlack tw_482 tw_483 (by decide) rfl (Nat.le_refl _) hn rfl (Nat.le_of_ble_eq_true rfl) dX6_bar_12 ?_
    refine s_if_ne (pc := 15) O (tgt := 20) dX6_bar_15 (by decide) (fun c => ?_) (fun c => ?_)
    · have h := ifn c h
      refine s_aload_n (pc := 20) O dX6_bar_20 rfl 0 rfl ?_
      obtain ⟨v4, e, h⟩ := bd h
      refine s_getR (pc := 21) O kc6 (k := 1) rfl tw_250 e dX6_bar_21 ?_
      refine s_iload_n (pc := 24) O dX6_bar_24 rfl 1 rfl ?_
      refine s_iload_n (pc := 25) O dX6_bar_25 rfl 2 rfl ?_
      obtain ⟨v5, e, h⟩ := bd h
      refine s_callVi (pc := 26) O (As := [.int a1, .int a2]) kc1 (c_X1_leastCommonSign (G := X.1) e) cy_X1_leastCommonSign tw_529 tw_530 tw_531 (by decide) rfl (Nat.le_refl _) hn (r_X1_leastCommonSign e).1 (r_X1_leastCommonSign e).2 rfl (Nat.le_of_ble_eq_true rfl) dX6_bar_26 ?_
      cases h
      exact s_iret (pc := 29) O hK dX6_bar_29
    · have h := ifp c h
      refine s_iconst (pc := 18) O (v := (-1)) dX6_bar_18 (by decide) ?_
      cases h
      exact s_iret (pc := 19) O hK dX6_bar_19

