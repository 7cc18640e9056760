def j_X3_takeLetters_66 (M : MM) (p0 : Nat) (a1 : Int32) : Option (MM) :=
  (f_X3_isName M p0 0).bind fun v1 => if v1 = 0 then ((f_X3_isName M p0 1).bind fun v2 => if v2 = 0 then (if a1 = 0 then ((wfI M p0 3 4 1).bind fun M3 => some M3) else ((fI M p0 3 3).bind fun v4 => (fI M p0 3 2).bind fun v5 => if (5 : Int32) < (v4 - v5) then ((wfI M p0 3 4 1).bind fun M6 => some M6) else ((wfI M p0 3 4 4).bind fun M7 => some M7))) else ((wfI M p0 3 4 6).bind fun M8 => some M8)) else ((wfI M p0 3 4 5).bind fun M9 => some M9)
set_option maxHeartbeats 4000000 in
set_option maxRecDepth 100000 in
theorem g_X3_takeLetters_66 {X : CT} {lim : Nat} {M : MM} {p0 : Nat} {a1 : Int32} (O : OKX X cX3_takeLetters RX3 6 lim 2) (hi : True) (hn : M.1 ≤ lim) {o : MM} (h : j_X3_takeLetters_66 M p0 a1 = some o) (hK : (fun (q : MM) => RTX X none none q) o) : WS X M 66 [(0, rf X.1 p0), (1, .int a1)] [] := by
  unfold j_X3_takeLetters_66 at h
  refine s_aload_n (pc := 66) O dX3_takeLetters_66 rfl 0 rfl ?_
  refine s_ldcS0 (pc := 67) O dX3_takeLetters_67 ?_
  obtain ⟨v1, e, h⟩ := bd h
  refine s_callVi (pc := 69) O (As := [sf X.1 0]) kc3 (c_X3_isName (G := X.1) e) cy_X3_isName tw_308 tw_310 tw_2 (by decide) rfl (Nat.le_refl _) hn (r_X3_isName e).1 (r_X3_isName e).2 rfl (Nat.le_of_ble_eq_true rfl) dX3_takeLetters_69 ?_
  refine s_if_eq (pc := 72) O (tgt := 83) dX3_takeLetters_72 (by decide) (fun c => ?_) (fun c => ?_)
  · have h := ifp c h
    refine s_aload_n (pc := 83) O dX3_takeLetters_83 rfl 0 rfl ?_
    refine s_ldcS1 (pc := 84) O dX3_takeLetters_84 ?_
    obtain ⟨v2, e, h⟩ := bd h
    refine s_callVi (pc := 86) O (As := [sf X.1 1]) kc3 (c_X3_isName (G := X.1) e) cy_X3_isName tw_308 tw_310 tw_2 (by decide) rfl (Nat.le_refl _) hn (r_X3_isName e).1 (r_X3_isName e).2 rfl (Nat.le_of_ble_eq_true rfl) dX3_takeLetters_86 ?_
    refine s_if_eq (pc := 89) O (tgt := 101) dX3_takeLetters_89 (by decide) (fun c => ?_) (fun c => ?_)
    · have h := ifp c h
      refine s_aload_n (pc := 101) O dX3_takeLetters_101 rfl 0 rfl ?_
      refine s_iload_n (pc := 102) O dX3_takeLetters_102 rfl 1 rfl ?_
      refine s_if_eq (pc := 103) O (tgt := 123) dX3_takeLetters_103 (by decide) (fun c => ?_) (fun c => ?_)
      · have h := ifp c h
        refine s_iconst (pc := 123) O (v := 1) dX3_takeLetters_123 (by decide) ?_
        obtain ⟨M3, e, h⟩ := bd h
        refine s_putI (pc := 124) O kc3 (k := 4) rfl rfl rfl tw_78 e dX3_takeLetters_124 ?_
        have hn : M3.1 ≤ lim := by rw [wfI_n e]; exact hn
        cases h
        exact s_vret (pc := 127) O hK dX3_takeLetters_127
      · have h := ifn c h
        refine s_aload_n (pc := 106) O dX3_takeLetters_106 rfl 0 rfl ?_
        obtain ⟨v4, e, h⟩ := bd h
        refine s_getI (pc := 107) O kc3 (k := 3) rfl tw_75 e dX3_takeLetters_107 ?_
        refine s_aload_n (pc := 110) O dX3_takeLetters_110 rfl 0 rfl ?_
        obtain ⟨v5, e, h⟩ := bd h
        refine s_getI (pc := 111) O kc3 (k := 2) rfl tw_72 e dX3_takeLetters_111 ?_
        refine s_isub (pc := 114) O dX3_takeLetters_114 ?_
        refine s_iconst (pc := 115) O (v := 5) dX3_takeLetters_115 (by decide) ?_
        refine s_icmp_gt (pc := 116) O (tgt := 123) dX3_takeLetters_116 (by decide) (fun c => ?_) (fun c => ?_)
        · have h := ifp c h
          refine s_iconst (pc := 123) O (v := 1) dX3_takeLetters_123 (by decide) ?_
          obtain ⟨M6, e, h⟩ := bd h
          refine s_putI (pc := 124) O kc3 (k := 4) rfl rfl rfl tw_78 e dX3_takeLetters_124 ?_
          have hn : M6.1 ≤ lim := by rw [wfI_n e]; exact hn
          cases h
          exact s_vret (pc := 127) O hK dX3_takeLetters_127
        · have h := ifn c h
          refine s_iconst (pc := 119) O (v := 4) dX3_takeLetters_119 (by decide) ?_
          refine s_goto (pc := 120) O (tgt := 124) dX3_takeLetters_120 (by decide) ?_
          obtain ⟨M7, e, h⟩ := bd h
          refine s_putI (pc := 124) O kc3 (k := 4) rfl rfl rfl tw_78 e dX3_takeLetters_124 ?_
          have hn : M7.1 ≤ lim := by rw [wfI_n e]; exact hn
          cases h
          exact s_vret (pc := 127) O hK dX3_takeLetters_127
    · have h := ifn c h
      refine s_aload_n (pc := 92) O dX3_takeLetters_92 rfl 0 rfl ?_
      refine s_bipush (pc := 93) O (v := 6) dX3_takeLetters_93 (by decide) ?_
      obtain ⟨M8, e, h⟩ := bd h
      refine s_putI (pc := 95) O kc3 (k := 4) rfl rfl rfl tw_78 e dX3_takeLetters_95 ?_
      have hn : M8.1 ≤ lim := by rw [wfI_n e]; exact hn
      refine s_goto (pc := 98) O (tgt := 127) dX3_takeLetters_98 (by decide) ?_
      cases h
      exact s_vret (pc := 127) O hK dX3_takeLetters_127
  · have h := ifn c h
    refine s_aload_n (pc := 75) O dX3_takeLetters_75 rfl 0 rfl ?_
    refine s_iconst (pc := 76) O (v := 5) dX3_takeLetters_76 (by decide) ?_
    obtain ⟨M9, e, h⟩ := bd h
    refine s_putI (pc := 77) O kc3 (k := 4) rfl rfl rfl tw_78 e dX3_takeLetters_77 ?_
    have hn : M9.1 ≤ lim := by rw [wfI_n e]; exact hn
    refine s_goto (pc := 80) O (tgt := 127) dX3_takeLetters_80 (by decide) ?_
    cases h
    exact s_vret (pc := 127) O hK dX3_takeLetters_127
def j_X3_takeLetters_52 (M : MM) (p0 : Nat) (s0 : Int32) : Option ((MM) ⊕ (Int32 × MM)) :=
  (fI M p0 3 3).bind fun v1 => (wfI M p0 3 3 ((v1 + 1))).bind fun M2 => some ((.inr (s0, M2)))
set_option maxHeartbeats 4000000 in
set_option maxRecDepth 100000 in
theorem g_X3_takeLetters_52 {X : CT} {lim : Nat} {M : MM} {p0 : Nat} {s0 : Int32} (O : OKX X cX3_takeLetters RX3 6 lim 2) (hi : True) (hn : M.1 ≤ lim) {o : (MM) ⊕ (Int32 × MM)} (h : j_X3_takeLetters_52 M p0 s0 = some o) (hK : (KI (fun (q : MM) => RTX X none none q) (fun (t : Int32 × MM) => t.2.1 ≤ lim → WS X t.2 2 [(0, rf X.1 p0), (1, .int t.1)] [])) o) : WS X M 52 [(0, rf X.1 p0)] [.int s0] := by
  unfold j_X3_takeLetters_52 at h
  refine s_istore_n (pc := 52) O (loc' := [(1, .int s0), (0, rf X.1 p0)]) dX3_takeLetters_52 rfl (by decide) rfl ?_
  refine s_aload_n (pc := 53) O dX3_takeLetters_53 rfl 1 rfl ?_
  refine s_dup (pc := 54) O dX3_takeLetters_54 rfl ?_
  obtain ⟨v1, e, h⟩ := bd h
  refine s_getI (pc := 55) O kc3 (k := 3) rfl tw_75 e dX3_takeLetters_55 ?_
  refine s_iconst (pc := 58) O (v := 1) dX3_takeLetters_58 (by decide) ?_
  refine s_iadd (pc := 59) O dX3_takeLetters_59 ?_
  obtain ⟨M2, e, h⟩ := bd h
  refine s_putI (pc := 60) O kc3 (k := 3) rfl rfl rfl tw_75 e dX3_takeLetters_60 ?_
  have hn : M2.1 ≤ lim := by rw [wfI_n e]; exact hn
  refine s_goto (pc := 63) O (tgt := 2) dX3_takeLetters_63 (by decide) ?_
  cases h
  exact s_sub (pc := 2) O [1, 0] rfl (hK hn)
def j_X3_takeLetters_51 (M : MM) (p0 : Nat) : Option ((MM) ⊕ (Int32 × MM)) :=
  j_X3_takeLetters_52 M p0 0
set_option maxHeartbeats 4000000 in
set_option maxRecDepth 100000 in
theorem g_X3_takeLetters_51 {X : CT} {lim : Nat} {M : MM} {p0 : Nat} (O : OKX X cX3_takeLetters RX3 6 lim 2) (hi : True) (hn : M.1 ≤ lim) {o : (MM) ⊕ (Int32 × MM)} (h : j_X3_takeLetters_51 M p0 = some o) (hK : (KI (fun (q : MM) => RTX X none none q) (fun (t : Int32 × MM) => t.2.1 ≤ lim → WS X t.2 2 [(0, rf X.1 p0), (1, .int t.1)] [])) o) : WS X M 51 [(0, rf X.1 p0)] [] := by
  unfold j_X3_takeLetters_51 at h
  refine s_iconst (pc := 51) O (v := 0) dX3_takeLetters_51 (by decide) ?_
  exact s_sub (pc := 52) O [0] rfl (g_X3_takeLetters_52 O hi hn h hK)
def z_X3_takeLetters_2 (M : MM) (p0 : Nat) (a1 : Int32) : Option ((MM) ⊕ (Int32 × MM)) :=
  (fI M p0 3 3).bind fun v1 => (fI M p0 3 1).bind fun v2 => if v2 ≤ v1 then ((j_X3_takeLetters_66 M p0 a1).map .inl) else ((fI M p0 3 3).bind fun v3 => (f_X3_isIn M p0 v3 97 122).bind fun v4 => if v4 = 0 then ((j_X3_takeLetters_66 M p0 a1).map .inl) else (if a1 = 0 then (j_X3_takeLetters_51 M p0) else ((fI M p0 3 3).bind fun v5 => (f_X3_isIn M p0 v5 97 104).bind fun v6 => if v6 = 0 then (j_X3_takeLetters_51 M p0) else (j_X3_takeLetters_52 M p0 1))))
set_option maxHeartbeats 4000000 in
set_option maxRecDepth 100000 in
theorem b_X3_takeLetters_2 {X : CT} {lim : Nat} {M : MM} {p0 : Nat} {a1 : Int32} (O : OKX X cX3_takeLetters RX3 6 lim 2) (hi : True) (hn : M.1 ≤ lim) {o : (MM) ⊕ (Int32 × MM)} (h : z_X3_takeLetters_2 M p0 a1 = some o) (hK : (KI (fun (q : MM) => RTX X none none q) (fun (t : Int32 × MM) => t.2.1 ≤ lim → WS X t.2 2 [(0, rf X.1 p0), (1, .int t.1)] [])) o) : WS X M 2 [(0, rf X.1 p0), (1, .int a1)] [] := by
  unfold z_X3_takeLetters_2 at h
  refine s_aload_n (pc := 2) O dX3_takeLetters_2 rfl 0 rfl ?_
  obtain ⟨v1, e, h⟩ := bd h
  refine s_getI (pc := 3) O kc3 (k := 3) rfl tw_75 e dX3_takeLetters_3 ?_
  refine s_aload_n (pc := 6) O dX3_takeLetters_6 rfl 0 rfl ?_
  obtain ⟨v2, e, h⟩ := bd h
  refine s_getI (pc := 7) O kc3 (k := 1) rfl tw_70 e dX3_takeLetters_7 ?_
  refine s_icmp_ge (pc := 10) O (tgt := 66) dX3_takeLetters_10 (by decide) (fun c => ?_) (fun c => ?_)
  · have h := ifp c h
    obtain ⟨q0, hq0, ho0⟩ := mpi h; subst ho0; replace h := hq0
    exact s_sub (pc := 66) O [0, 1] rfl (g_X3_takeLetters_66 O hi hn h hK)
  · have h := ifn c h
    refine s_aload_n (pc := 13) O dX3_takeLetters_13 rfl 0 rfl ?_
    refine s_aload_n (pc := 14) O dX3_takeLetters_14 rfl 0 rfl ?_
    obtain ⟨v3, e, h⟩ := bd h
    refine s_getI (pc := 15) O kc3 (k := 3) rfl tw_75 e dX3_takeLetters_15 ?_
    refine s_bipush (pc := 18) O (v := 97) dX3_takeLetters_18 (by decide) ?_
    refine s_bipush (pc := 20) O (v := 122) dX3_takeLetters_20 (by decide) ?_
    obtain ⟨v4, e, h⟩ := bd h
    refine s_callVi (pc := 22) O (As := [.int v3, .int 97, .int 122]) kc3 (c_X3_isIn (G := X.1) e) cy_X3_isIn tw_299 tw_301 tw_0 (by decide) rfl (Nat.le_refl _) hn (r_X3_isIn e).1 (r_X3_isIn e).2 rfl (Nat.le_of_ble_eq_true rfl) dX3_takeLetters_22 ?_
    refine s_if_eq (pc := 25) O (tgt := 66) dX3_takeLetters_25 (by decide) (fun c => ?_) (fun c => ?_)
    · have h := ifp c h
      obtain ⟨q0, hq0, ho0⟩ := mpi h; subst ho0; replace h := hq0
      exact s_sub (pc := 66) O [0, 1] rfl (g_X3_takeLetters_66 O hi hn h hK)
    · have h := ifn c h
      refine s_iload_n (pc := 28) O dX3_takeLetters_28 rfl 1 rfl ?_
      refine s_if_eq (pc := 29) O (tgt := 51) dX3_takeLetters_29 (by decide) (fun c => ?_) (fun c => ?_)
      · have h := ifp c h
        exact s_sub (pc := 51) O [0] rfl (g_X3_takeLetters_51 O hi hn h hK)
      · have h := ifn c h
        refine s_aload_n (pc := 32) O dX3_takeLetters_32 rfl 0 rfl ?_
        refine s_aload_n (pc := 33) O dX3_takeLetters_33 rfl 0 rfl ?_
        obtain ⟨v5, e, h⟩ := bd h
        refine s_getI (pc := 34) O kc3 (k := 3) rfl tw_75 e dX3_takeLetters_34 ?_
        refine s_bipush (pc := 37) O (v := 97) dX3_takeLetters_37 (by decide) ?_
        refine s_bipush (pc := 39) O (v := 104) dX3_takeLetters_39 (by decide) ?_
        obtain ⟨v6, e, h⟩ := bd h
        refine s_callVi (pc := 41) O (As := [.int v5, .int 97, .int 104]) kc3 (c_X3_isIn (G := X.1) e) cy_X3_isIn tw_299 tw_301 tw_0 (by decide) rfl (Nat.le_refl _) hn (r_X3_isIn e).1 (r_X3_isIn e).2 rfl (Nat.le_of_ble_eq_true rfl) dX3_takeLetters_41 ?_
        refine s_if_eq (pc := 44) O (tgt := 51) dX3_takeLetters_44 (by decide) (fun c => ?_) (fun c => ?_)
        · have h := ifp c h
          exact s_sub (pc := 51) O [0] rfl (g_X3_takeLetters_51 O hi hn h hK)
        · have h := ifn c h
          refine s_iconst (pc := 47) O (v := 1) dX3_takeLetters_47 (by decide) ?_
          refine s_goto (pc := 48) O (tgt := 52) dX3_takeLetters_48 (by decide) ?_
          exact s_sub (pc := 52) O [0] rfl (g_X3_takeLetters_52 O hi hn h hK)
set_option maxHeartbeats 4000000 in
set_option maxRecDepth 100000 in
theorem l_X3_takeLetters_2 {X : CT} {lim : Nat} {M : MM} {p0 : Nat} {a1 : Int32} (O : OKX X cX3_takeLetters RX3 6 lim 2) (hi : True) (hn : M.1 ≤ lim) {o : MM} {n : Nat} (h : lp (fun t => z_X3_takeLetters_2 t.2 p0 t.1) n (a1, M) = some o) (hK : (fun (q : MM) => RTX X none none q) o) : WS X M 2 [(0, rf X.1 p0), (1, .int a1)] [] := by
  refine lp_ind (P := fun (o : MM) (t : Int32 × MM) => t.2.1 ≤ lim → (fun (q : MM) => RTX X none none q) o → WS X t.2 2 [(0, rf X.1 p0), (1, .int t.1)] []) (fun t o hs hn hK => ?_) n (a1, M) o h hn hK
  rcases hs with h | ⟨u, h, hu⟩
  · exact b_X3_takeLetters_2 O hi hn h hK
  · exact b_X3_takeLetters_2 O hi hn h (show KI _ _ (.inr u) from fun hn => hu hn hK)
def f_X3_takeLetters (M : MM) (p0 : Nat) : Option (MM) :=
  if p0 < M.1 ∧ kd p0 = 3 then (lp (fun t => z_X3_takeLetters_2 t.2 p0 t.1) FU (1, M)) else none
theorem r_X3_takeLetters {M : MM} {p0 : Nat} {o : MM} (h : f_X3_takeLetters M p0 = some o) : p0 < M.1 ∧ kd p0 = 3 := by
  unfold f_X3_takeLetters at h
  exact (gd h).1
theorem cy_X3_takeLetters : CallY yX3_takeLetters cX3_takeLetters 2 (none) 0 := ⟨by decide +kernel, tw_306, tw_41, by decide⟩
set_option maxHeartbeats 4000000 in
set_option maxRecDepth 100000 in
theorem c_X3_takeLetters {G : GG} {M : MM} {p0 : Nat} {M' : MM} (h : f_X3_takeLetters M p0 = some M') (hn : M.1 ≤ M'.1) : Ct G yX3_takeLetters cX3_takeLetters 2 (none) 6 [rf G p0] M (none) M' := by
  refine ct_of (by decide +kernel) (Nat.le_of_ble_eq_true rfl) (fun X hX O hK hi0 => ?_)
  subst hX
  obtain ⟨lim, hlim⟩ : ∃ z, z = M'.1 := ⟨_, rfl⟩
  rw [← hlim] at O hn
  replace O : OKX X cX3_takeLetters RX3 6 lim 2 := O
  have hi : True := trivial
  show WS X M 0 [(0, rf X.1 p0)] []
  unfold f_X3_takeLetters at h
  obtain ⟨hg0, h⟩ := gd h
  refine s_iconst (pc := 0) O (v := 1) dX3_takeLetters_0 (by decide) ?_
  refine s_istore_n (pc := 1) O (loc' := [(1, .int 1), (0, rf X.1 p0)]) dX3_takeLetters_1 rfl (by decide) rfl ?_
  exact s_sub (pc := 2) O [1, 0] rfl (l_X3_takeLetters_2 O hi hn h hK)

def j_X3_advance_46 (M : MM) (p0 : Nat) : Option (MM) :=
  (fI M p0 3 2).bind fun v1 => (wfI M p0 3 3 v1).bind fun M2 => (fI M2 p0 3 2).bind fun v3 => (fI M2 p0 3 1).bind fun v4 => if v3 < v4 then ((fI M2 p0 3 2).bind fun v5 => (f_X3_isIn M2 p0 v5 97 122).bind fun v6 => if v6 = 0 then ((fI M2 p0 3 2).bind fun v7 => (f_X3_isIn M2 p0 v7 48 57).bind fun v8 => if v8 = 0 then ((fI M2 p0 3 3).bind fun v9 => (wfI M2 p0 3 3 ((v9 + 1))).bind fun M10 => (fR M10 p0 3 0).bind fun v11 => (fI M10 p0 3 2).bind fun v12 => (aI M10 v11 v12).bind fun v13 => if v13 = 59 then ((wfI M10 p0 3 4 2).bind fun M15 => some M15) else ((wfI M10 p0 3 4 1).bind fun M14 => some M14)) else ((f_X3_takeNumber M2 p0).bind fun M16 => if M16.1 = M2.1 then (some M16) else none)) else ((f_X3_takeLetters M2 p0).bind fun M17 => if M17.1 = M2.1 then (some M17) else none)) else ((wfI M2 p0 3 4 0).bind fun M18 => some M18)
set_option maxHeartbeats 4000000 in
set_option maxRecDepth 100000 in
theorem g_X3_advance_46 {X : CT} {lim : Nat} {M : MM} {p0 : Nat} (O : OKX X cX3_advance RX3 7 lim 1) (hi : True) (hn : M.1 ≤ lim) {o : MM} (h : j_X3_advance_46 M p0 = some o) (hK : (fun (q : MM) => RTX X none none q) o) : WS X M 46 [(0, rf X.1 p0)] [] := by
  unfold j_X3_advance_46 at h
  refine s_aload_n (pc := 46) O dX3_advance_46 rfl 0 rfl ?_
  refine s_aload_n (pc := 47) O dX3_advance_47 rfl 0 rfl ?_
  obtain ⟨v1, e, h⟩ := bd h
  refine s_getI (pc := 48) O kc3 (k := 2) rfl tw_72 e dX3_advance_48 ?_
  obtain ⟨M2, e, h⟩ := bd h
  refine s_putI (pc := 51) O kc3 (k := 3) rfl rfl rfl tw_75 e dX3_advance_51 ?_
  have hn : M2.1 ≤ lim := by rw [wfI_n e]; exact hn
  refine s_aload_n (pc := 54) O dX3_advance_54 rfl 0 rfl ?_
  obtain ⟨v3, e, h⟩ := bd h
  refine s_getI (pc := 55) O kc3 (k := 2) rfl tw_72 e dX3_advance_55 ?_
  refine s_aload_n (pc := 58) O dX3_advance_58 rfl 0 rfl ?_
  obtain ⟨v4, e, h⟩ := bd h
  refine s_getI (pc := 59) O kc3 (k := 1) rfl tw_70 e dX3_advance_59 ?_
  refine s_icmp_lt (pc := 62) O (tgt := 73) dX3_advance_62 (by decide) (fun c => ?_) (fun c => ?_)
  · have h := ifp c h
    refine s_aload_n (pc := 73) O dX3_advance_73 rfl 0 rfl ?_
    refine s_aload_n (pc := 74) O dX3_advance_74 rfl 0 rfl ?_
    obtain ⟨v5, e, h⟩ := bd h
    refine s_getI (pc := 75) O kc3 (k := 2) rfl tw_72 e dX3_advance_75 ?_
    refine s_bipush (pc := 78) O (v := 97) dX3_advance_78 (by decide) ?_
    refine s_bipush (pc := 80) O (v := 122) dX3_advance_80 (by decide) ?_
    obtain ⟨v6, e, h⟩ := bd h
    refine s_callVi (pc := 82) O (As := [.int v5, .int 97, .int 122]) kc3 (c_X3_isIn (G := X.1) e) cy_X3_isIn tw_299 tw_301 tw_0 (by decide) rfl (Nat.le_refl _) hn (r_X3_isIn e).1 (r_X3_isIn e).2 rfl (Nat.le_of_ble_eq_true rfl) dX3_advance_82 ?_
    refine s_if_eq (pc := 85) O (tgt := 95) dX3_advance_85 (by decide) (fun c => ?_) (fun c => ?_)
    · have h := ifp c h
      refine s_aload_n (pc := 95) O dX3_advance_95 rfl 0 rfl ?_
      refine s_aload_n (pc := 96) O dX3_advance_96 rfl 0 rfl ?_
      obtain ⟨v7, e, h⟩ := bd h
      refine s_getI (pc := 97) O kc3 (k := 2) rfl tw_72 e dX3_advance_97 ?_
      refine s_bipush (pc := 100) O (v := 48) dX3_advance_100 (by decide) ?_
      refine s_bipush (pc := 102) O (v := 57) dX3_advance_102 (by decide) ?_
      obtain ⟨v8, e, h⟩ := bd h
      refine s_callVi (pc := 104) O (As := [.int v7, .int 48, .int 57]) kc3 (c_X3_isIn (G := X.1) e) cy_X3_isIn tw_299 tw_301 tw_0 (by decide) rfl (Nat.le_refl _) hn (r_X3_isIn e).1 (r_X3_isIn e).2 rfl (Nat.le_of_ble_eq_true rfl) dX3_advance_104 ?_
      refine s_if_eq (pc := 107) O (tgt := 117) dX3_advance_107 (by decide) (fun c => ?_) (fun c => ?_)
      · have h := ifp c h
        refine s_aload_n (pc := 117) O dX3_advance_117 rfl 0 rfl ?_
        refine s_dup (pc := 118) O dX3_advance_118 rfl ?_
        obtain ⟨v9, e, h⟩ := bd h
        refine s_getI (pc := 119) O kc3 (k := 3) rfl tw_75 e dX3_advance_119 ?_
        refine s_iconst (pc := 122) O (v := 1) dX3_advance_122 (by decide) ?_
        refine s_iadd (pc := 123) O dX3_advance_123 ?_
        obtain ⟨M10, e, h⟩ := bd h
        refine s_putI (pc := 124) O kc3 (k := 3) rfl rfl rfl tw_75 e dX3_advance_124 ?_
        have hn : M10.1 ≤ lim := by rw [wfI_n e]; exact hn
        refine s_aload_n (pc := 127) O dX3_advance_127 rfl 0 rfl ?_
        refine s_aload_n (pc := 128) O dX3_advance_128 rfl 0 rfl ?_
        obtain ⟨v11, e, h⟩ := bd h
        refine s_getR (pc := 129) O kc3 (k := 0) rfl tw_68 e dX3_advance_129 ?_
        refine s_aload_n (pc := 132) O dX3_advance_132 rfl 0 rfl ?_
        obtain ⟨v12, e, h⟩ := bd h
        refine s_getI (pc := 133) O kc3 (k := 2) rfl tw_72 e dX3_advance_133 ?_
        obtain ⟨v13, e, h⟩ := bd h
        refine s_aldI (pc := 136) O e dX3_advance_136 ?_
        refine s_bipush (pc := 137) O (v := 59) dX3_advance_137 (by decide) ?_
        refine s_icmp_ne (pc := 139) O (tgt := 146) dX3_advance_139 (by decide) (fun c => ?_) (fun c => ?_)
        · have h := ifn c h
          refine s_iconst (pc := 146) O (v := 1) dX3_advance_146 (by decide) ?_
          obtain ⟨M14, e, h⟩ := bd h
          refine s_putI (pc := 147) O kc3 (k := 4) rfl rfl rfl tw_78 e dX3_advance_147 ?_
          have hn : M14.1 ≤ lim := by rw [wfI_n e]; exact hn
          cases h
          exact s_vret (pc := 150) O hK dX3_advance_150
        · have h := ifp c h
          refine s_iconst (pc := 142) O (v := 2) dX3_advance_142 (by decide) ?_
          refine s_goto (pc := 143) O (tgt := 147) dX3_advance_143 (by decide) ?_
          obtain ⟨M15, e, h⟩ := bd h
          refine s_putI (pc := 147) O kc3 (k := 4) rfl rfl rfl tw_78 e dX3_advance_147 ?_
          have hn : M15.1 ≤ lim := by rw [wfI_n e]; exact hn
          cases h
          exact s_vret (pc := 150) O hK dX3_advance_150
      · have h := ifn c h
        refine s_aload_n (pc := 110) O dX3_advance_110 rfl 0 rfl ?_
        obtain ⟨M16, e, h⟩ := bd h
        obtain ⟨hg, h⟩ := gd h
        refine s_callVv (pc := 111) O (As := []) kc3 (c_X3_takeNumber (G := X.1) e (Nat.le_of_eq hg.symm)) cy_X3_takeNumber tw_361 tw_363 tw_3 (by decide) rfl (Nat.le_of_eq hg.symm) (by rw [hg]; exact hn) (r_X3_takeNumber e).1 (r_X3_takeNumber e).2 rfl (Nat.le_of_ble_eq_true rfl) dX3_advance_111 ?_
        have hn : M16.1 ≤ lim := by rw [hg]; exact hn
        refine s_goto (pc := 114) O (tgt := 150) dX3_advance_114 (by decide) ?_
        cases h
        exact s_vret (pc := 150) O hK dX3_advance_150
    · have h := ifn c h
      refine s_aload_n (pc := 88) O dX3_advance_88 rfl 0 rfl ?_
      obtain ⟨M17, e, h⟩ := bd h
      obtain ⟨hg, h⟩ := gd h
      refine s_callVv (pc := 89) O (As := []) kc3 (c_X3_takeLetters (G := X.1) e (Nat.le_of_eq hg.symm)) cy_X3_takeLetters tw_303 tw_305 tw_1 (by decide) rfl (Nat.le_of_eq hg.symm) (by rw [hg]; exact hn) (r_X3_takeLetters e).1 (r_X3_takeLetters e).2 rfl (Nat.le_of_ble_eq_true rfl) dX3_advance_89 ?_
      have hn : M17.1 ≤ lim := by rw [hg]; exact hn
      refine s_goto (pc := 92) O (tgt := 150) dX3_advance_92 (by decide) ?_
      cases h
      exact s_vret (pc := 150) O hK dX3_advance_150
  · have h := ifn c h
    refine s_aload_n (pc := 65) O dX3_advance_65 rfl 0 rfl ?_
    refine s_iconst (pc := 66) O (v := 0) dX3_advance_66 (by decide) ?_
    obtain ⟨M18, e, h⟩ := bd h
    refine s_putI (pc := 67) O kc3 (k := 4) rfl rfl rfl tw_78 e dX3_advance_67 ?_
    have hn : M18.1 ≤ lim := by rw [wfI_n e]; exact hn
    refine s_goto (pc := 70) O (tgt := 150) dX3_advance_70 (by decide) ?_
    cases h
    exact s_vret (pc := 150) O hK dX3_advance_150
def z_X3_advance_8 (M : MM) (p0 : Nat) : Option ((MM) ⊕ (MM)) :=
  (fI M p0 3 2).bind fun v1 => (fI M p0 3 1).bind fun v2 => if v2 ≤ v1 then ((j_X3_advance_46 M p0).map .inl) else ((fR M p0 3 0).bind fun v3 => (fI M p0 3 2).bind fun v4 => (aI M v3 v4).bind fun v5 => if v5 = 32 then ((fI M p0 3 2).bind fun v6 => (wfI M p0 3 2 ((v6 + 1))).bind fun M7 => some ((.inr (M7)))) else ((j_X3_advance_46 M p0).map .inl))
set_option maxHeartbeats 4000000 in
set_option maxRecDepth 100000 in
theorem b_X3_advance_8 {X : CT} {lim : Nat} {M : MM} {p0 : Nat} (O : OKX X cX3_advance RX3 7 lim 1) (hi : True) (hn : M.1 ≤ lim) {o : (MM) ⊕ (MM)} (h : z_X3_advance_8 M p0 = some o) (hK : (KI (fun (q : MM) => RTX X none none q) (fun (t : MM) => t.1 ≤ lim → WS X t 8 [(0, rf X.1 p0)] [])) o) : WS X M 8 [(0, rf X.1 p0)] [] := by
  unfold z_X3_advance_8 at h
  refine s_aload_n (pc := 8) O dX3_advance_8 rfl 0 rfl ?_
  obtain ⟨v1, e, h⟩ := bd h
  refine s_getI (pc := 9) O kc3 (k := 2) rfl tw_72 e dX3_advance_9 ?_
  refine s_aload_n (pc := 12) O dX3_advance_12 rfl 0 rfl ?_
  obtain ⟨v2, e, h⟩ := bd h
  refine s_getI (pc := 13) O kc3 (k := 1) rfl tw_70 e dX3_advance_13 ?_
  refine s_icmp_ge (pc := 16) O (tgt := 46) dX3_advance_16 (by decide) (fun c => ?_) (fun c => ?_)
  · have h := ifp c h
    obtain ⟨q0, hq0, ho0⟩ := mpi h; subst ho0; replace h := hq0
    exact s_sub (pc := 46) O [0] rfl (g_X3_advance_46 O hi hn h hK)
  · have h := ifn c h
    refine s_aload_n (pc := 19) O dX3_advance_19 rfl 0 rfl ?_
    obtain ⟨v3, e, h⟩ := bd h
    refine s_getR (pc := 20) O kc3 (k := 0) rfl tw_68 e dX3_advance_20 ?_
    refine s_aload_n (pc := 23) O dX3_advance_23 rfl 0 rfl ?_
    obtain ⟨v4, e, h⟩ := bd h
    refine s_getI (pc := 24) O kc3 (k := 2) rfl tw_72 e dX3_advance_24 ?_
    obtain ⟨v5, e, h⟩ := bd h
    refine s_aldI (pc := 27) O e dX3_advance_27 ?_
    refine s_bipush (pc := 28) O (v := 32) dX3_advance_28 (by decide) ?_
    refine s_icmp_ne (pc := 30) O (tgt := 46) dX3_advance_30 (by decide) (fun c => ?_) (fun c => ?_)
    · have h := ifn c h
      obtain ⟨q0, hq0, ho0⟩ := mpi h; subst ho0; replace h := hq0
      exact s_sub (pc := 46) O [0] rfl (g_X3_advance_46 O hi hn h hK)
    · have h := ifp c h
      refine s_aload_n (pc := 33) O dX3_advance_33 rfl 0 rfl ?_
      refine s_dup (pc := 34) O dX3_advance_34 rfl ?_
      obtain ⟨v6, e, h⟩ := bd h
      refine s_getI (pc := 35) O kc3 (k := 2) rfl tw_72 e dX3_advance_35 ?_
      refine s_iconst (pc := 38) O (v := 1) dX3_advance_38 (by decide) ?_
      refine s_iadd (pc := 39) O dX3_advance_39 ?_
      obtain ⟨M7, e, h⟩ := bd h
      refine s_putI (pc := 40) O kc3 (k := 2) rfl rfl rfl tw_72 e dX3_advance_40 ?_
      have hn : M7.1 ≤ lim := by rw [wfI_n e]; exact hn
      refine s_goto (pc := 43) O (tgt := 8) dX3_advance_43 (by decide) ?_
      cases h
      exact s_sub (pc := 8) O [0] rfl (hK hn)
set_option maxHeartbeats 4000000 in
set_option maxRecDepth 100000 in
theorem l_X3_advance_8 {X : CT} {lim : Nat} {M : MM} {p0 : Nat} (O : OKX X cX3_advance RX3 7 lim 1) (hi : True) (hn : M.1 ≤ lim) {o : MM} {n : Nat} (h : lp (fun t => z_X3_advance_8 t p0) n (M) = some o) (hK : (fun (q : MM) => RTX X none none q) o) : WS X M 8 [(0, rf X.1 p0)] [] := by
  refine lp_ind (P := fun (o : MM) (t : MM) => t.1 ≤ lim → (fun (q : MM) => RTX X none none q) o → WS X t 8 [(0, rf X.1 p0)] []) (fun t o hs hn hK => ?_) n (M) o h hn hK
  rcases hs with h | ⟨u, h, hu⟩
  · exact b_X3_advance_8 O hi hn h hK
  · exact b_X3_advance_8 O hi hn h (show KI _ _ (.inr u) from fun hn => hu hn hK)
def f_X3_advance (M : MM) (p0 : Nat) : Option (MM) :=
  if p0 < M.1 ∧ kd p0 = 3 then ((fI M p0 3 3).bind fun v1 => (wfI M p0 3 2 v1).bind fun M2 => lp (fun t => z_X3_advance_8 t p0) FU (M2)) else none
theorem r_X3_advance {M : MM} {p0 : Nat} {o : MM} (h : f_X3_advance M p0 = some o) : p0 < M.1 ∧ kd p0 = 3 := by
  unfold f_X3_advance at h
  exact (gd h).1
theorem cy_X3_advance : CallY yX3_advance cX3_advance 1 (none) 0 := ⟨by decide +kernel, tw_298, tw_41, by decide⟩
set_option maxHeartbeats 4000000 in
set_option maxRecDepth 100000 in
theorem c_X3_advance {G : GG} {M : MM} {p0 : Nat} {M' : MM} (h : f_X3_advance M p0 = some M') (hn : M.1 ≤ M'.1) : Ct G yX3_advance cX3_advance 1 (none) 7 [rf G p0] M (none) M' := by
  refine ct_of (by decide +kernel) (Nat.le_of_ble_eq_true rfl) (fun X hX O hK hi0 => ?_)
  subst hX
  obtain ⟨lim, hlim⟩ : ∃ z, z = M'.1 := ⟨_, rfl⟩
  rw [← hlim] at O hn
  replace O : OKX X cX3_advance RX3 7 lim 1 := O
  have hi : True := trivial
  show WS X M 0 [(0, rf X.1 p0)] []
  unfold f_X3_advance at h
  obtain ⟨hg0, h⟩ := gd h
  refine s_aload_n (pc := 0) O dX3_advance_0 rfl 0 rfl ?_
  refine s_aload_n (pc := 1) O dX3_advance_1 rfl 0 rfl ?_
  obtain ⟨v1, e, h⟩ := bd h
  refine s_getI (pc := 2) O kc3 (k := 3) rfl tw_75 e dX3_advance_2 ?_
  obtain ⟨M2, e, h⟩ := bd h
  refine s_putI (pc := 5) O kc3 (k := 2) rfl rfl rfl tw_72 e dX3_advance_5 ?_
  have hn : M2.1 ≤ lim := by rw [wfI_n e]; exact hn
  exact s_sub (pc := 8) O [0] rfl (l_X3_advance_8 O hi hn h hK)

def f_X4_readEnd (M : MM) (p0 : Nat) : Option (Int32 × MM) :=
  (f_X3_advance M p0).bind fun M1 => if M1.1 = M.1 then ((fI M1 p0 3 4).bind fun v2 => if v2 = 2 then (some ((1, M1))) else (some ((0, M1)))) else none
theorem cy_X4_readEnd : CallY yX4_readEnd cX4_readEnd 1 (some .boolean) 1 := ⟨by decide +kernel, tw_381, tw_44, by decide⟩
set_option maxHeartbeats 4000000 in
set_option maxRecDepth 100000 in
theorem c_X4_readEnd {G : GG} {M : MM} {p0 : Nat} {r : Int32} {M' : MM} (h : f_X4_readEnd M p0 = some (r, M')) (hn : M.1 ≤ M'.1) : Ct G yX4_readEnd cX4_readEnd 1 (some .boolean) 8 [rf G p0] M (some (.int r)) M' := by
  refine ct_of (by decide +kernel) (Nat.le_of_ble_eq_true rfl) (fun X hX O hK hi0 => ?_)
  subst hX
  obtain ⟨lim, hlim⟩ : ∃ z, z = M'.1 := ⟨_, rfl⟩
  rw [← hlim] at O hn
  replace O : OKX X cX4_readEnd RX4 8 lim 1 := O
  have hi : True := trivial
  show WS X M 0 [(0, rf X.1 p0)] []
  replace hK : (fun (q : Int32 × MM) => RTX X (some .boolean) (some (.int q.1)) q.2) (r, M') := hK
  generalize (r, M') = o at h hK
  unfold f_X4_readEnd at h
  refine s_aload_n (pc := 0) O dX4_readEnd_0 rfl 0 rfl ?_
  obtain ⟨M1, e, h⟩ := bd h
  obtain ⟨hg, h⟩ := gd h
  refine s_callVv (pc := 1) O (As := []) kc3 (c_X3_advance (G := X.1) e (Nat.le_of_eq hg.symm)) cy_X3_advance tw_295 tw_296 tw_297 (by decide) rfl (Nat.le_of_eq hg.symm) (by rw [hg]; exact hn) (r_X3_advance e).1 (r_X3_advance e).2 rfl (Nat.le_of_ble_eq_true rfl) dX4_readEnd_1 ?_
  have hn : M1.1 ≤ lim := by rw [hg]; exact hn
  refine s_aload_n (pc := 4) O dX4_readEnd_4 rfl 0 rfl ?_
  obtain ⟨v2, e, h⟩ := bd h
  refine s_getI (pc := 5) O kc3 (k := 4) rfl tw_77 e dX4_readEnd_5 ?_
  refine s_iconst (pc := 8) O (v := 2) dX4_readEnd_8 (by decide) ?_
  refine s_icmp_ne (pc := 9) O (tgt := 16) dX4_readEnd_9 (by decide) (fun c => ?_) (fun c => ?_)
  · have h := ifn c h
    refine s_iconst (pc := 16) O (v := 0) dX4_readEnd_16 (by decide) ?_
    cases h
    exact s_zret (pc := 17) O (by decide) hK dX4_readEnd_17
  · have h := ifp c h
    refine s_iconst (pc := 12) O (v := 1) dX4_readEnd_12 (by decide) ?_
    refine s_goto (pc := 13) O (tgt := 17) dX4_readEnd_13 (by decide) ?_
    cases h
    exact s_zret (pc := 17) O (by decide) hK dX4_readEnd_17

def f_X4_readNumber (M : MM) (p0 : Nat) (a1 : Int32) : Option (Int32 × MM) :=
  (f_X3_advance M p0).bind fun M1 => if M1.1 = M.1 then ((fI M1 p0 3 4).bind fun v2 => if v2 = 3 then ((fI M1 p0 3 5).bind fun v3 => if a1 < v3 then (some ((0, M1))) else (some ((1, M1)))) else (some ((0, M1)))) else none
theorem cy_X4_readNumber : CallY yX4_readNumber cX4_readNumber 2 (some .boolean) 2 := ⟨by decide +kernel, tw_378, tw_44, by decide⟩
set_option maxHeartbeats 4000000 in
set_option maxRecDepth 100000 in
theorem c_X4_readNumber {G : GG} {M : MM} {p0 : Nat} {a1 : Int32} {r : Int32} {M' : MM} (h : f_X4_readNumber M p0 a1 = some (r, M')) (hn : M.1 ≤ M'.1) : Ct G yX4_readNumber cX4_readNumber 2 (some .boolean) 8 [rf G p0, .int a1] M (some (.int r)) M' := by
  refine ct_of (by decide +kernel) (Nat.le_of_ble_eq_true rfl) (fun X hX O hK hi0 => ?_)
  subst hX
  obtain ⟨lim, hlim⟩ : ∃ z, z = M'.1 := ⟨_, rfl⟩
  rw [← hlim] at O hn
  replace O : OKX X cX4_readNumber RX4 8 lim 2 := O
  have hi : True := trivial
  show WS X M 0 [(0, rf X.1 p0), (1, .int a1)] []
  replace hK : (fun (q : Int32 × MM) => RTX X (some .boolean) (some (.int q.1)) q.2) (r, M') := hK
  generalize (r, M') = o at h hK
  unfold f_X4_readNumber at h
  refine s_aload_n (pc := 0) O dX4_readNumber_0 rfl 0 rfl ?_
  obtain ⟨M1, e, h⟩ := bd h
  obtain ⟨hg, h⟩ := gd h
  refine s_callVv (pc := 1) O (As := []) kc3 (c_X3_advance (G := X.1) e (Nat.le_of_eq hg.symm)) cy_X3_advance tw_295 tw_296 tw_297 (by decide) rfl (Nat.le_of_eq hg.symm) (by rw [hg]; exact hn) (r_X3_advance e).1 (r_X3_advance e).2 rfl (Nat.le_of_ble_eq_true rfl) dX4_readNumber_1 ?_
  have hn : M1.1 ≤ lim := by rw [hg]; exact hn
  refine s_aload_n (pc := 4) O dX4_readNumber_4 rfl 0 rfl ?_
  obtain ⟨v2, e, h⟩ := bd h
  refine s_getI (pc := 5) O kc3 (k := 4) rfl tw_77 e dX4_readNumber_5 ?_
  refine s_iconst (pc := 8) O (v := 3) dX4_readNumber_8 (by decide) ?_
  refine s_icmp_ne (pc := 9) O (tgt := 24) dX4_readNumber_9 (by decide) (fun c => ?_) (fun c => ?_)
  · have h := ifn c h
    refine s_iconst (pc := 24) O (v := 0) dX4_readNumber_24 (by decide) ?_
    cases h
    exact s_zret (pc := 25) O (by decide) hK dX4_readNumber_25
  · have h := ifp c h
    refine s_aload_n (pc := 12) O dX4_readNumber_12 rfl 0 rfl ?_
    obtain ⟨v3, e, h⟩ := bd h
    refine s_getI (pc := 13) O kc3 (k := 5) rfl tw_79 e dX4_readNumber_13 ?_
    refine s_iload_n (pc := 16) O dX4_readNumber_16 rfl 1 rfl ?_
    refine s_icmp_gt (pc := 17) O (tgt := 24) dX4_readNumber_17 (by decide) (fun c => ?_) (fun c => ?_)
    · have h := ifp c h
      refine s_iconst (pc := 24) O (v := 0) dX4_readNumber_24 (by decide) ?_
      cases h
      exact s_zret (pc := 25) O (by decide) hK dX4_readNumber_25
    · have h := ifn c h
      refine s_iconst (pc := 20) O (v := 1) dX4_readNumber_20 (by decide) ?_
      refine s_goto (pc := 21) O (tgt := 25) dX4_readNumber_21 (by decide) ?_
      cases h
      exact s_zret (pc := 25) O (by decide) hK dX4_readNumber_25

def z_X4_readSigns_33 (M : MM) (p0 : Nat) (p1 : Nat) (a2 : Int32) : Option ((Int32 × MM) ⊕ (Int32 × MM)) :=
  (fI M p1 5 1).bind fun v1 => if v1 ≤ a2 then (some ((.inl (1, M)))) else ((fR M p1 5 0).bind fun v2 => (fR M p0 3 0).bind fun v3 => (fI M p0 3 2).bind fun v4 => (aI M v3 ((v4 + a2))).bind fun v5 => (waI M v2 a2 ((v5 - 97))).bind fun M6 => some ((.inr ((a2 + 1), M6))))
set_option maxHeartbeats 4000000 in
set_option maxRecDepth 100000 in
theorem b_X4_readSigns_33 {X : CT} {lim : Nat} {M : MM} {p0 : Nat} {p1 : Nat} {a2 : Int32} (O : OKX X cX4_readSigns RX4 8 lim 3) (hi : True) (hn : M.1 ≤ lim) {o : (Int32 × MM) ⊕ (Int32 × MM)} (h : z_X4_readSigns_33 M p0 p1 a2 = some o) (hK : (KI (fun (q : Int32 × MM) => RTX X (some .boolean) (some (.int q.1)) q.2) (fun (t : Int32 × MM) => t.2.1 ≤ lim → WS X t.2 33 [(0, rf X.1 p0), (1, rf X.1 p1), (2, .int t.1)] [])) o) : WS X M 33 [(0, rf X.1 p0), (1, rf X.1 p1), (2, .int a2)] [] := by
  unfold z_X4_readSigns_33 at h
  refine s_iload_n (pc := 33) O dX4_readSigns_33 rfl 2 rfl ?_
  refine s_aload_n (pc := 34) O dX4_readSigns_34 rfl 1 rfl ?_
  obtain ⟨v1, e, h⟩ := bd h
  refine s_getI (pc := 35) O kc5 (k := 1) rfl tw_190 e dX4_readSigns_35 ?_
  refine s_icmp_ge (pc := 38) O (tgt := 67) dX4_readSigns_38 (by decide) (fun c => ?_) (fun c => ?_)
  · have h := ifp c h
    refine s_iconst (pc := 67) O (v := 1) dX4_readSigns_67 (by decide) ?_
    cases h
    exact s_zret (pc := 68) O (by decide) hK dX4_readSigns_68
  · have h := ifn c h
    refine s_aload_n (pc := 41) O dX4_readSigns_41 rfl 1 rfl ?_
    obtain ⟨v2, e, h⟩ := bd h
    refine s_getR (pc := 42) O kc5 (k := 0) rfl tw_187 e dX4_readSigns_42 ?_
    refine s_iload_n (pc := 45) O dX4_readSigns_45 rfl 2 rfl ?_
    refine s_aload_n (pc := 46) O dX4_readSigns_46 rfl 0 rfl ?_
    obtain ⟨v3, e, h⟩ := bd h
    refine s_getR (pc := 47) O kc3 (k := 0) rfl tw_69 e dX4_readSigns_47 ?_
    refine s_aload_n (pc := 50) O dX4_readSigns_50 rfl 0 rfl ?_
    obtain ⟨v4, e, h⟩ := bd h
    refine s_getI (pc := 51) O kc3 (k := 2) rfl tw_74 e dX4_readSigns_51 ?_
    refine s_iload_n (pc := 54) O dX4_readSigns_54 rfl 2 rfl ?_
    refine s_iadd (pc := 55) O dX4_readSigns_55 ?_
    obtain ⟨v5, e, h⟩ := bd h
    refine s_aldI (pc := 56) O e dX4_readSigns_56 ?_
    refine s_bipush (pc := 57) O (v := 97) dX4_readSigns_57 (by decide) ?_
    refine s_isub (pc := 59) O dX4_readSigns_59 ?_
    obtain ⟨M6, e, h⟩ := bd h
    refine s_astI (pc := 60) O e dX4_readSigns_60 ?_
    have hn : M6.1 ≤ lim := by rw [waI_n e]; exact hn
    refine s_iinc (pc := 61) O (v := (a2 + 1)) (loc' := [(2, .int (a2 + 1)), (0, rf X.1 p0), (1, rf X.1 p1)]) dX4_readSigns_61 2 rfl rfl (by decide) rfl ?_
    refine s_goto (pc := 64) O (tgt := 33) dX4_readSigns_64 (by decide) ?_
    cases h
    exact s_sub (pc := 33) O [1, 2, 0] rfl (hK hn)
set_option maxHeartbeats 4000000 in
set_option maxRecDepth 100000 in
theorem l_X4_readSigns_33 {X : CT} {lim : Nat} {M : MM} {p0 : Nat} {p1 : Nat} {a2 : Int32} (O : OKX X cX4_readSigns RX4 8 lim 3) (hi : True) (hn : M.1 ≤ lim) {o : Int32 × MM} {n : Nat} (h : lp (fun t => z_X4_readSigns_33 t.2 p0 p1 t.1) n (a2, M) = some o) (hK : (fun (q : Int32 × MM) => RTX X (some .boolean) (some (.int q.1)) q.2) o) : WS X M 33 [(0, rf X.1 p0), (1, rf X.1 p1), (2, .int a2)] [] := by
  refine lp_ind (P := fun (o : Int32 × MM) (t : Int32 × MM) => t.2.1 ≤ lim → (fun (q : Int32 × MM) => RTX X (some .boolean) (some (.int q.1)) q.2) o → WS X t.2 33 [(0, rf X.1 p0), (1, rf X.1 p1), (2, .int t.1)] []) (fun t o hs hn hK => ?_) n (a2, M) o h hn hK
  rcases hs with h | ⟨u, h, hu⟩
  · exact b_X4_readSigns_33 O hi hn h hK
  · exact b_X4_readSigns_33 O hi hn h (show KI _ _ (.inr u) from fun hn => hu hn hK)
def f_X4_readSigns (M : MM) (p0 : Nat) (p1 : Nat) : Option (Int32 × MM) :=
  (f_X3_advance M p0).bind fun M1 => if M1.1 = M.1 then ((fI M1 p0 3 4).bind fun v2 => if v2 = 4 then ((fI M1 p0 3 3).bind fun v3 => (fI M1 p0 3 2).bind fun v4 => (wfI M1 p1 5 1 ((if 5 < (v3 - v4) then 5 else (v3 - v4)))).bind fun M5 => lp (fun t => z_X4_readSigns_33 t.2 p0 p1 t.1) FU (0, M5)) else (some ((0, M1)))) else none
theorem cy_X4_readSigns : CallY yX4_readSigns cX4_readSigns 3 (some .boolean) 2 := ⟨by decide +kernel, tw_374, tw_44, by decide⟩
set_option maxHeartbeats 4000000 in
set_option maxRecDepth 100000 in
theorem c_X4_readSigns {G : GG} {M : MM} {p0 : Nat} {p1 : Nat} {r : Int32} {M' : MM} (h : f_X4_readSigns M p0 p1 = some (r, M')) (hn : M.1 ≤ M'.1) : Ct G yX4_readSigns cX4_readSigns 3 (some .boolean) 8 [rf G p0, rf G p1] M (some (.int r)) M' := by
  refine ct_of (by decide +kernel) (Nat.le_of_ble_eq_true rfl) (fun X hX O hK hi0 => ?_)
  subst hX
  obtain ⟨lim, hlim⟩ : ∃ z, z = M'.1 := ⟨_, rfl⟩
  rw [← hlim] at O hn
  replace O : OKX X cX4_readSigns RX4 8 lim 3 := O
  have hi : True := trivial
  show WS X M 0 [(0, rf X.1 p0), (1, rf X.1 p1)] []
  replace hK : (fun (q : Int32 × MM) => RTX X (some .boolean) (some (.int q.1)) q.2) (r, M') := hK
  generalize (r, M') = o at h hK
  unfold f_X4_readSigns at h
  refine s_aload_n (pc := 0) O dX4_readSigns_0 rfl 0 rfl ?_
  obtain ⟨M1, e, h⟩ := bd h
  obtain ⟨hg, h⟩ := gd h
  refine s_callVv (pc := 1) O (As := []) kc3 (c_X3_advance (G := X.1) e (Nat.le_of_eq hg.symm)) cy_X3_advance tw_295 tw_296 tw_297 (by decide) rfl (Nat.le_of_eq hg.symm) (by rw [hg]; exact hn) (r_X3_advance e).1 (r_X3_advance e).2 rfl (Nat.le_of_ble_eq_true rfl) dX4_readSigns_1 ?_
  have hn : M1.1 ≤ lim := by rw [hg]; exact hn
  refine s_aload_n (pc := 4) O dX4_readSigns_4 rfl 0 rfl ?_
  obtain ⟨v2, e, h⟩ := bd h
  refine s_getI (pc := 5) O kc3 (k := 4) rfl tw_77 e dX4_readSigns_5 ?_
  refine s_iconst (pc := 8) O (v := 4) dX4_readSigns_8 (by decide) ?_
  refine s_icmp_eq (pc := 9) O (tgt := 14) dX4_readSigns_9 (by decide) (fun c => ?_) (fun c => ?_)
  · have h := ifp c h
    refine s_aload_n (pc := 14) O dX4_readSigns_14 rfl 1 rfl ?_
    refine s_aload_n (pc := 15) O dX4_readSigns_15 rfl 0 rfl ?_
    obtain ⟨v3, e, h⟩ := bd h
    refine s_getI (pc := 16) O kc3 (k := 3) rfl tw_76 e dX4_readSigns_16 ?_
    refine s_aload_n (pc := 19) O dX4_readSigns_19 rfl 0 rfl ?_
    obtain ⟨v4, e, h⟩ := bd h
    refine s_getI (pc := 20) O kc3 (k := 2) rfl tw_74 e dX4_readSigns_20 ?_
    refine s_isub (pc := 23) O dX4_readSigns_23 ?_
    refine s_iconst (pc := 24) O (v := 5) dX4_readSigns_24 (by decide) ?_
    refine s_mmin (pc := 25) O tw_375 hn (by decide) (Nat.le_of_ble_eq_true rfl) dX4_readSigns_25 ?_
    obtain ⟨M5, e, h⟩ := bd h
    refine s_putI (pc := 28) O kc5 (k := 1) rfl rfl rfl tw_190 e dX4_readSigns_28 ?_
    have hn : M5.1 ≤ lim := by rw [wfI_n e]; exact hn
    refine s_iconst (pc := 31) O (v := 0) dX4_readSigns_31 (by decide) ?_
    refine s_istore_n (pc := 32) O (loc' := [(2, .int 0), (0, rf X.1 p0), (1, rf X.1 p1)]) dX4_readSigns_32 rfl (by decide) rfl ?_
    exact s_sub (pc := 33) O [1, 2, 0] rfl (l_X4_readSigns_33 O hi hn h hK)
  · have h := ifn c h
    refine s_iconst (pc := 12) O (v := 0) dX4_readSigns_12 (by decide) ?_
    cases h
    exact s_zret (pc := 13) O (by decide) hK dX4_readSigns_13

def z_X4_readShape_55 (M : MM) (p1 : Nat) (p2 : Nat) (a3 : Int32) : Option ((Int32 × MM) ⊕ (Int32 × MM)) :=
  if (3 : Int32) ≤ a3 then (((f_X4_readEnd M p1).bind fun v1 => if v1.2.1 = M.1 then (if v1.1 = 0 ∨ v1.1 = 1 then (some ((v1.1, v1.2))) else none) else none).map .inl) else ((f_X4_readNumber M p1 2).bind fun v2 => if v2.2.1 = M.1 then (if v2.1 = 0 then (((fI v2.2 p1 3 4).bind fun v7 => if v7 = 2 then (some ((1, v2.2))) else (some ((0, v2.2)))).map .inl) else ((fR v2.2 p2 2 0).bind fun v3 => (fI v2.2 p1 3 5).bind fun v4 => (waI v2.2 v3 a3 v4).bind fun M5 => (wfI M5 p2 2 1 ((a3 + 1))).bind fun M6 => some ((.inr ((a3 + 1), M6))))) else none)
set_option maxHeartbeats 4000000 in
set_option maxRecDepth 100000 in
theorem b_X4_readShape_55 {X : CT} {lim : Nat} {M : MM} {p1 : Nat} {p2 : Nat} {a3 : Int32} (O : OKX X cX4_readShape RX4 9 lim 4) (hi : True) (hn : M.1 ≤ lim) {o : (Int32 × MM) ⊕ (Int32 × MM)} (h : z_X4_readShape_55 M p1 p2 a3 = some o) (hK : (KI (fun (q : Int32 × MM) => RTX X (some .boolean) (some (.int q.1)) q.2) (fun (t : Int32 × MM) => t.2.1 ≤ lim → WS X t.2 55 [(1, rf X.1 p1), (2, rf X.1 p2), (3, .int t.1)] [])) o) : WS X M 55 [(1, rf X.1 p1), (2, rf X.1 p2), (3, .int a3)] [] := by
  unfold z_X4_readShape_55 at h
  refine s_iload_n (pc := 55) O dX4_readShape_55 rfl 2 rfl ?_
  refine s_iconst (pc := 56) O (v := 3) dX4_readShape_56 (by decide) ?_
  refine s_icmp_ge (pc := 57) O (tgt := 105) dX4_readShape_57 (by decide) (fun c => ?_) (fun c => ?_)
  · have h := ifp c h
    obtain ⟨q0, hq0, ho0⟩ := mpi h; subst ho0; replace h := hq0
    refine s_aload_n (pc := 105) O dX4_readShape_105 rfl 0 rfl ?_
    obtain ⟨v1, e, h⟩ := bd h
    obtain ⟨hg, h⟩ := gd h
    refine s_callSi (pc := 106) O (As := [rf X.1 p1]) (c_X4_readEnd (G := X.1) e (Nat.le_of_eq hg.symm)) cy_X4_readEnd tw_379 tw_380 (by decide) rfl (Nat.le_of_eq hg.symm) (by rw [hg]; exact hn) rfl (Nat.le_of_ble_eq_true rfl) dX4_readShape_106 ?_
    have hn : v1.2.1 ≤ lim := by rw [hg]; exact hn
    obtain ⟨hz, h⟩ := gd h
    cases h
    exact s_zret (pc := 109) O hz hK dX4_readShape_109
  · have h := ifn c h
    refine s_aload_n (pc := 60) O dX4_readShape_60 rfl 0 rfl ?_
    refine s_iconst (pc := 61) O (v := 2) dX4_readShape_61 (by decide) ?_
    obtain ⟨v2, e, h⟩ := bd h
    obtain ⟨hg, h⟩ := gd h
    refine s_callSi (pc := 62) O (As := [rf X.1 p1, .int 2]) (c_X4_readNumber (G := X.1) e (Nat.le_of_eq hg.symm)) cy_X4_readNumber tw_376 tw_377 (by decide) rfl (Nat.le_of_eq hg.symm) (by rw [hg]; exact hn) rfl (Nat.le_of_ble_eq_true rfl) dX4_readShape_62 ?_
    have hn : v2.2.1 ≤ lim := by rw [hg]; exact hn
    refine s_if_ne (pc := 65) O (tgt := 82) dX4_readShape_65 (by decide) (fun c => ?_) (fun c => ?_)
    · have h := ifn c h
      refine s_aload_n (pc := 82) O dX4_readShape_82 rfl 1 rfl ?_
      obtain ⟨v3, e, h⟩ := bd h
      refine s_getR (pc := 83) O kc2 (k := 0) rfl tw_218 e dX4_readShape_83 ?_
      refine s_iload_n (pc := 86) O dX4_readShape_86 rfl 2 rfl ?_
      refine s_aload_n (pc := 87) O dX4_readShape_87 rfl 0 rfl ?_
      obtain ⟨v4, e, h⟩ := bd h
      refine s_getI (pc := 88) O kc3 (k := 5) rfl tw_79 e dX4_readShape_88 ?_
      obtain ⟨M5, e, h⟩ := bd h
      refine s_astI (pc := 91) O e dX4_readShape_91 ?_
      have hn : M5.1 ≤ lim := by rw [waI_n e]; exact hn
      refine s_aload_n (pc := 92) O dX4_readShape_92 rfl 1 rfl ?_
      refine s_iload_n (pc := 93) O dX4_readShape_93 rfl 2 rfl ?_
      refine s_iconst (pc := 94) O (v := 1) dX4_readShape_94 (by decide) ?_
      refine s_iadd (pc := 95) O dX4_readShape_95 ?_
      obtain ⟨M6, e, h⟩ := bd h
      refine s_putI (pc := 96) O kc2 (k := 1) rfl rfl rfl tw_221 e dX4_readShape_96 ?_
      have hn : M6.1 ≤ lim := by rw [wfI_n e]; exact hn
      refine s_iinc (pc := 99) O (v := (a3 + 1)) (loc' := [(3, .int (a3 + 1)), (1, rf X.1 p1), (2, rf X.1 p2)]) dX4_readShape_99 2 rfl rfl (by decide) rfl ?_
      refine s_goto (pc := 102) O (tgt := 55) dX4_readShape_102 (by decide) ?_
      cases h
      exact s_sub (pc := 55) O [1, 2, 0] rfl (hK hn)
    · have h := ifp c h
      obtain ⟨q0, hq0, ho0⟩ := mpi h; subst ho0; replace h := hq0
      refine s_aload_n (pc := 68) O dX4_readShape_68 rfl 0 rfl ?_
      obtain ⟨v7, e, h⟩ := bd h
      refine s_getI (pc := 69) O kc3 (k := 4) rfl tw_77 e dX4_readShape_69 ?_
      refine s_iconst (pc := 72) O (v := 2) dX4_readShape_72 (by decide) ?_
      refine s_icmp_ne (pc := 73) O (tgt := 80) dX4_readShape_73 (by decide) (fun c => ?_) (fun c => ?_)
      · have h := ifn c h
        refine s_iconst (pc := 80) O (v := 0) dX4_readShape_80 (by decide) ?_
        cases h
        exact s_zret (pc := 81) O (by decide) hK dX4_readShape_81
      · have h := ifp c h
        refine s_iconst (pc := 76) O (v := 1) dX4_readShape_76 (by decide) ?_
        refine s_goto (pc := 77) O (tgt := 81) dX4_readShape_77 (by decide) ?_
        cases h
        exact s_zret (pc := 81) O (by decide) hK dX4_readShape_81
set_option maxHeartbeats 4000000 in
set_option maxRecDepth 100000 in
theorem l_X4_readShape_55 {X : CT} {lim : Nat} {M : MM} {p1 : Nat} {p2 : Nat} {a3 : Int32} (O : OKX X cX4_readShape RX4 9 lim 4) (hi : True) (hn : M.1 ≤ lim) {o : Int32 × MM} {n : Nat} (h : lp (fun t => z_X4_readShape_55 t.2 p1 p2 t.1) n (a3, M) = some o) (hK : (fun (q : Int32 × MM) => RTX X (some .boolean) (some (.int q.1)) q.2) o) : WS X M 55 [(1, rf X.1 p1), (2, rf X.1 p2), (3, .int a3)] [] := by
  refine lp_ind (P := fun (o : Int32 × MM) (t : Int32 × MM) => t.2.1 ≤ lim → (fun (q : Int32 × MM) => RTX X (some .boolean) (some (.int q.1)) q.2) o → WS X t.2 55 [(1, rf X.1 p1), (2, rf X.1 p2), (3, .int t.1)] []) (fun t o hs hn hK => ?_) n (a3, M) o h hn hK
  rcases hs with h | ⟨u, h, hu⟩
  · exact b_X4_readShape_55 O hi hn h hK
  · exact b_X4_readShape_55 O hi hn h (show KI _ _ (.inr u) from fun hn => hu hn hK)
def f_X4_readShape (M : MM) (p0 : Nat) (p1 : Nat) : Option (Int32 × MM) :=
  if p0 < M.1 ∧ kd p0 = 4 then ((fI M p0 4 3).bind fun v1 => if (4 : Int32) ≤ v1 then (some ((0, M))) else ((f_X4_readNumber M p1 2).bind fun v2 => if v2.2.1 = M.1 then (if v2.1 = 0 then (some ((0, v2.2))) else ((fR v2.2 p0 4 1).bind fun v3 => (fI v2.2 p0 4 3).bind fun v4 => (aR v2.2 v3 12 v4).bind fun v5 => (fR v2.2 v5 2 0).bind fun v6 => (fI v2.2 p1 3 5).bind fun v7 => (waI v2.2 v6 0 v7).bind fun M8 => (wfI M8 v5 2 1 1).bind fun M9 => (fI M9 p0 4 3).bind fun v10 => (wfI M9 p0 4 3 ((v10 + 1))).bind fun M11 => lp (fun t => z_X4_readShape_55 t.2 p1 v5 t.1) FU (1, M11))) else none)) else none
theorem r_X4_readShape {M : MM} {p0 : Nat} {p1 : Nat} {o : Int32 × MM} (h : f_X4_readShape M p0 p1 = some o) : p0 < M.1 ∧ kd p0 = 4 := by
  unfold f_X4_readShape at h
  exact (gd h).1
theorem cy_X4_readShape : CallY yX4_readShape cX4_readShape 4 (some .boolean) 1 := ⟨by decide +kernel, tw_385, tw_44, by decide⟩
set_option maxHeartbeats 4000000 in
set_option maxRecDepth 100000 in
theorem c_X4_readShape {G : GG} {M : MM} {p0 : Nat} {p1 : Nat} {r : Int32} {M' : MM} (h : f_X4_readShape M p0 p1 = some (r, M')) (hn : M.1 ≤ M'.1) : Ct G yX4_readShape cX4_readShape 4 (some .boolean) 9 [rf G p0, rf G p1] M (some (.int r)) M' := by
  refine ct_of (by decide +kernel) (Nat.le_of_ble_eq_true rfl) (fun X hX O hK hi0 => ?_)
  subst hX
  obtain ⟨lim, hlim⟩ : ∃ z, z = M'.1 := ⟨_, rfl⟩
  rw [← hlim] at O hn
  replace O : OKX X cX4_readShape RX4 9 lim 4 := O
  have hi : True := trivial
  show WS X M 0 [(0, rf X.1 p0), (1, rf X.1 p1)] []
  replace hK : (fun (q : Int32 × MM) => RTX X (some .boolean) (some (.int q.1)) q.2) (r, M') := hK
  generalize (r, M') = o at h hK
  unfold f_X4_readShape at h
  obtain ⟨hg0, h⟩ := gd h
  refine s_aload_n (pc := 0) O dX4_readShape_0 rfl 0 rfl ?_
  obtain ⟨v1, e, h⟩ := bd h
  refine s_getI (pc := 1) O kc4 (k := 3) rfl tw_237 e dX4_readShape_1 ?_
  refine s_iconst (pc := 4) O (v := 4) dX4_readShape_4 (by decide) ?_
  refine s_icmp_ge (pc := 5) O (tgt := 16) dX4_readShape_5 (by decide) (fun c => ?_) (fun c => ?_)
  · have h := ifp c h
    refine s_iconst (pc := 16) O (v := 0) dX4_readShape_16 (by decide) ?_
    cases h
    exact s_zret (pc := 17) O (by decide) hK dX4_readShape_17
  · have h := ifn c h
    refine s_aload_n (pc := 8) O dX4_readShape_8 rfl 1 rfl ?_
    refine s_iconst (pc := 9) O (v := 2) dX4_readShape_9 (by decide) ?_
    obtain ⟨v2, e, h⟩ := bd h
    obtain ⟨hg, h⟩ := gd h
    refine s_callSi (pc := 10) O (As := [rf X.1 p1, .int 2]) (c_X4_readNumber (G := X.1) e (Nat.le_of_eq hg.symm)) cy_X4_readNumber tw_376 tw_377 (by decide) rfl (Nat.le_of_eq hg.symm) (by rw [hg]; exact hn) rfl (Nat.le_of_ble_eq_true rfl) dX4_readShape_10 ?_
    have hn : v2.2.1 ≤ lim := by rw [hg]; exact hn
    refine s_if_ne (pc := 13) O (tgt := 18) dX4_readShape_13 (by decide) (fun c => ?_) (fun c => ?_)
    · have h := ifn c h
      refine s_aload_n (pc := 18) O dX4_readShape_18 rfl 0 rfl ?_
      obtain ⟨v3, e, h⟩ := bd h
      refine s_getR (pc := 19) O kc4 (k := 1) rfl tw_231 e dX4_readShape_19 ?_
      refine s_aload_n (pc := 22) O dX4_readShape_22 rfl 0 rfl ?_
      obtain ⟨v4, e, h⟩ := bd h
      refine s_getI (pc := 23) O kc4 (k := 3) rfl tw_237 e dX4_readShape_23 ?_
      obtain ⟨v5, e, h⟩ := bd h
      refine s_aldR12 (pc := 26) O e dX4_readShape_26 ?_
      refine s_astore_n (pc := 27) O (loc' := [(2, rf X.1 v5), (0, rf X.1 p0), (1, rf X.1 p1)]) dX4_readShape_27 rfl (by decide) rfl ?_
      refine s_aload_n (pc := 28) O dX4_readShape_28 rfl 0 rfl ?_
      obtain ⟨v6, e, h⟩ := bd h
      refine s_getR (pc := 29) O kc2 (k := 0) rfl tw_218 e dX4_readShape_29 ?_
      refine s_iconst (pc := 32) O (v := 0) dX4_readShape_32 (by decide) ?_
      refine s_aload_n (pc := 33) O dX4_readShape_33 rfl 2 rfl ?_
      obtain ⟨v7, e, h⟩ := bd h
      refine s_getI (pc := 34) O kc3 (k := 5) rfl tw_79 e dX4_readShape_34 ?_
      obtain ⟨M8, e, h⟩ := bd h
      refine s_astI (pc := 37) O e dX4_readShape_37 ?_
      have hn : M8.1 ≤ lim := by rw [waI_n e]; exact hn
      refine s_aload_n (pc := 38) O dX4_readShape_38 rfl 0 rfl ?_
      refine s_iconst (pc := 39) O (v := 1) dX4_readShape_39 (by decide) ?_
      obtain ⟨M9, e, h⟩ := bd h
      refine s_putI (pc := 40) O kc2 (k := 1) rfl rfl rfl tw_221 e dX4_readShape_40 ?_
      have hn : M9.1 ≤ lim := by rw [wfI_n e]; exact hn
      refine s_aload_n (pc := 43) O dX4_readShape_43 rfl 1 rfl ?_
      refine s_dup (pc := 44) O dX4_readShape_44 rfl ?_
      obtain ⟨v10, e, h⟩ := bd h
      refine s_getI (pc := 45) O kc4 (k := 3) rfl tw_237 e dX4_readShape_45 ?_
      refine s_iconst (pc := 48) O (v := 1) dX4_readShape_48 (by decide) ?_
      refine s_iadd (pc := 49) O dX4_readShape_49 ?_
      obtain ⟨M11, e, h⟩ := bd h
      refine s_putI (pc := 50) O kc4 (k := 3) rfl rfl rfl tw_237 e dX4_readShape_50 ?_
      have hn : M11.1 ≤ lim := by rw [wfI_n e]; exact hn
      refine s_iconst (pc := 53) O (v := 1) dX4_readShape_53 (by decide) ?_
      refine s_istore_n (pc := 54) O (loc' := [(3, .int 1), (2, rf X.1 v5), (0, rf X.1 p0), (1, rf X.1 p1)]) dX4_readShape_54 rfl (by decide) rfl ?_
      exact s_sub (pc := 55) O [3, 1, 0] rfl (l_X4_readShape_55 O hi hn h hK)
    · have h := ifp c h
      refine s_iconst (pc := 16) O (v := 0) dX4_readShape_16 (by decide) ?_
      cases h
      exact s_zret (pc := 17) O (by decide) hK dX4_readShape_17

def f_X4_readWord (M : MM) (p0 : Nat) (p1 : Nat) : Option (Int32 × MM) :=
  if p0 < M.1 ∧ kd p0 = 4 then ((fI M p0 4 2).bind fun v1 => if v1 < 9 then ((fR M p0 4 0).bind fun v2 => (fI M p0 4 2).bind fun v3 => (aR M v2 13 v3).bind fun v4 => (f_X4_readSigns M p1 v4).bind fun v5 => if v5.2.1 = M.1 then (if v5.1 = 0 then (some ((0, v5.2))) else ((f_X4_readNumber v5.2 p1 2).bind fun v6 => if v6.2.1 = v5.2.1 then (if v6.1 = 0 then (some ((0, v6.2))) else ((fI v6.2 p1 3 5).bind fun v7 => (wfI v6.2 v4 5 2 v7).bind fun M8 => (f_X4_readNumber M8 p1 9).bind fun v9 => if v9.2.1 = M8.1 then (if v9.1 = 0 then (some ((0, v9.2))) else ((fI v9.2 p1 3 5).bind fun v10 => (wfI v9.2 v4 5 3 v10).bind fun M11 => (f_X4_readNumber M11 p1 9).bind fun v12 => if v12.2.1 = M11.1 then (if v12.1 = 0 then (some ((0, v12.2))) else ((fI v12.2 p1 3 5).bind fun v13 => (wfI v12.2 v4 5 4 v13).bind fun M14 => (fI M14 p0 4 2).bind fun v15 => (wfI M14 p0 4 2 ((v15 + 1))).bind fun M16 => (f_X4_readEnd M16 p1).bind fun v17 => if v17.2.1 = M16.1 then (if v17.1 = 0 ∨ v17.1 = 1 then (some ((v17.1, v17.2))) else none) else none)) else none)) else none)) else none)) else none) else (some ((0, M)))) else none
theorem r_X4_readWord {M : MM} {p0 : Nat} {p1 : Nat} {o : Int32 × MM} (h : f_X4_readWord M p0 p1 = some o) : p0 < M.1 ∧ kd p0 = 4 := by
  unfold f_X4_readWord at h
  exact (gd h).1
theorem cy_X4_readWord : CallY yX4_readWord cX4_readWord 3 (some .boolean) 1 := ⟨by decide +kernel, tw_371, tw_44, by decide⟩
set_option maxHeartbeats 4000000 in
set_option maxRecDepth 100000 in
theorem c_X4_readWord {G : GG} {M : MM} {p0 : Nat} {p1 : Nat} {r : Int32} {M' : MM} (h : f_X4_readWord M p0 p1 = some (r, M')) (hn : M.1 ≤ M'.1) : Ct G yX4_readWord cX4_readWord 3 (some .boolean) 9 [rf G p0, rf G p1] M (some (.int r)) M' := by
  refine ct_of (by decide +kernel) (Nat.le_of_ble_eq_true rfl) (fun X hX O hK hi0 => ?_)
  subst hX
  obtain ⟨lim, hlim⟩ : ∃ z, z = M'.1 := ⟨_, rfl⟩
  rw [← hlim] at O hn
  replace O : OKX X cX4_readWord RX4 9 lim 3 := O
  have hi : True := trivial
  show WS X M 0 [(0, rf X.1 p0), (1, rf X.1 p1)] []
  replace hK : (fun (q : Int32 × MM) => RTX X (some .boolean) (some (.int q.1)) q.2) (r, M') := hK
  generalize (r, M') = o at h hK
  unfold f_X4_readWord at h
  obtain ⟨hg0, h⟩ := gd h
  refine s_aload_n (pc := 0) O dX4_readWord_0 rfl 0 rfl ?_
  obtain ⟨v1, e, h⟩ := bd h
  refine s_getI (pc := 1) O kc4 (k := 2) rfl tw_234 e dX4_readWord_1 ?_
  refine s_bipush (pc := 4) O (v := 9) dX4_readWord_4 (by decide) ?_
  refine s_icmp_lt (pc := 6) O (tgt := 11) dX4_readWord_6 (by decide) (fun c => ?_) (fun c => ?_)
  · have h := ifp c h
    refine s_aload_n (pc := 11) O dX4_readWord_11 rfl 0 rfl ?_
    obtain ⟨v2, e, h⟩ := bd h
    refine s_getR (pc := 12) O kc4 (k := 0) rfl tw_228 e dX4_readWord_12 ?_
    refine s_aload_n (pc := 15) O dX4_readWord_15 rfl 0 rfl ?_
    obtain ⟨v3, e, h⟩ := bd h
    refine s_getI (pc := 16) O kc4 (k := 2) rfl tw_234 e dX4_readWord_16 ?_
    obtain ⟨v4, e, h⟩ := bd h
    refine s_aldR13 (pc := 19) O e dX4_readWord_19 ?_
    refine s_astore_n (pc := 20) O (loc' := [(2, rf X.1 v4), (0, rf X.1 p0), (1, rf X.1 p1)]) dX4_readWord_20 rfl (by decide) rfl ?_
    refine s_aload_n (pc := 21) O dX4_readWord_21 rfl 2 rfl ?_
    refine s_aload_n (pc := 22) O dX4_readWord_22 rfl 0 rfl ?_
    obtain ⟨v5, e, h⟩ := bd h
    obtain ⟨hg, h⟩ := gd h
    refine s_callSi (pc := 23) O (As := [rf X.1 p1, rf X.1 v4]) (c_X4_readSigns (G := X.1) e (Nat.le_of_eq hg.symm)) cy_X4_readSigns tw_372 tw_373 (by decide) rfl (Nat.le_of_eq hg.symm) (by rw [hg]; exact hn) rfl (Nat.le_of_ble_eq_true rfl) dX4_readWord_23 ?_
    have hn : v5.2.1 ≤ lim := by rw [hg]; exact hn
    refine s_if_eq (pc := 26) O (tgt := 37) dX4_readWord_26 (by decide) (fun c => ?_) (fun c => ?_)
    · have h := ifp c h
      refine s_iconst (pc := 37) O (v := 0) dX4_readWord_37 (by decide) ?_
      cases h
      exact s_zret (pc := 38) O (by decide) hK dX4_readWord_38
    · have h := ifn c h
      refine s_aload_n (pc := 29) O dX4_readWord_29 rfl 2 rfl ?_
      refine s_iconst (pc := 30) O (v := 2) dX4_readWord_30 (by decide) ?_
      obtain ⟨v6, e, h⟩ := bd h
      obtain ⟨hg, h⟩ := gd h
      refine s_callSi (pc := 31) O (As := [rf X.1 p1, .int 2]) (c_X4_readNumber (G := X.1) e (Nat.le_of_eq hg.symm)) cy_X4_readNumber tw_376 tw_377 (by decide) rfl (Nat.le_of_eq hg.symm) (by rw [hg]; exact hn) rfl (Nat.le_of_ble_eq_true rfl) dX4_readWord_31 ?_
      have hn : v6.2.1 ≤ lim := by rw [hg]; exact hn
      refine s_if_ne (pc := 34) O (tgt := 39) dX4_readWord_34 (by decide) (fun c => ?_) (fun c => ?_)
      · have h := ifn c h
        refine s_aload_n (pc := 39) O dX4_readWord_39 rfl 0 rfl ?_
        refine s_aload_n (pc := 40) O dX4_readWord_40 rfl 2 rfl ?_
        obtain ⟨v7, e, h⟩ := bd h
        refine s_getI (pc := 41) O kc3 (k := 5) rfl tw_79 e dX4_readWord_41 ?_
        obtain ⟨M8, e, h⟩ := bd h
        refine s_putI (pc := 44) O kc5 (k := 2) rfl rfl rfl tw_192 e dX4_readWord_44 ?_
        have hn : M8.1 ≤ lim := by rw [wfI_n e]; exact hn
        refine s_aload_n (pc := 47) O dX4_readWord_47 rfl 2 rfl ?_
        refine s_bipush (pc := 48) O (v := 9) dX4_readWord_48 (by decide) ?_
        obtain ⟨v9, e, h⟩ := bd h
        obtain ⟨hg, h⟩ := gd h
        refine s_callSi (pc := 50) O (As := [rf X.1 p1, .int 9]) (c_X4_readNumber (G := X.1) e (Nat.le_of_eq hg.symm)) cy_X4_readNumber tw_376 tw_377 (by decide) rfl (Nat.le_of_eq hg.symm) (by rw [hg]; exact hn) rfl (Nat.le_of_ble_eq_true rfl) dX4_readWord_50 ?_
        have hn : v9.2.1 ≤ lim := by rw [hg]; exact hn
        refine s_if_ne (pc := 53) O (tgt := 58) dX4_readWord_53 (by decide) (fun c => ?_) (fun c => ?_)
        · have h := ifn c h
          refine s_aload_n (pc := 58) O dX4_readWord_58 rfl 0 rfl ?_
          refine s_aload_n (pc := 59) O dX4_readWord_59 rfl 2 rfl ?_
          obtain ⟨v10, e, h⟩ := bd h
          refine s_getI (pc := 60) O kc3 (k := 5) rfl tw_79 e dX4_readWord_60 ?_
          obtain ⟨M11, e, h⟩ := bd h
          refine s_putI (pc := 63) O kc5 (k := 3) rfl rfl rfl tw_195 e dX4_readWord_63 ?_
          have hn : M11.1 ≤ lim := by rw [wfI_n e]; exact hn
          refine s_aload_n (pc := 66) O dX4_readWord_66 rfl 2 rfl ?_
          refine s_bipush (pc := 67) O (v := 9) dX4_readWord_67 (by decide) ?_
          obtain ⟨v12, e, h⟩ := bd h
          obtain ⟨hg, h⟩ := gd h
          refine s_callSi (pc := 69) O (As := [rf X.1 p1, .int 9]) (c_X4_readNumber (G := X.1) e (Nat.le_of_eq hg.symm)) cy_X4_readNumber tw_376 tw_377 (by decide) rfl (Nat.le_of_eq hg.symm) (by rw [hg]; exact hn) rfl (Nat.le_of_ble_eq_true rfl) dX4_readWord_69 ?_
          have hn : v12.2.1 ≤ lim := by rw [hg]; exact hn
          refine s_if_ne (pc := 72) O (tgt := 77) dX4_readWord_72 (by decide) (fun c => ?_) (fun c => ?_)
          · have h := ifn c h
            refine s_aload_n (pc := 77) O dX4_readWord_77 rfl 0 rfl ?_
            refine s_aload_n (pc := 78) O dX4_readWord_78 rfl 2 rfl ?_
            obtain ⟨v13, e, h⟩ := bd h
            refine s_getI (pc := 79) O kc3 (k := 5) rfl tw_79 e dX4_readWord_79 ?_
            obtain ⟨M14, e, h⟩ := bd h
            refine s_putI (pc := 82) O kc5 (k := 4) rfl rfl rfl tw_198 e dX4_readWord_82 ?_
            have hn : M14.1 ≤ lim := by rw [wfI_n e]; exact hn
            refine s_aload_n (pc := 85) O dX4_readWord_85 rfl 1 rfl ?_
            refine s_dup (pc := 86) O dX4_readWord_86 rfl ?_
            obtain ⟨v15, e, h⟩ := bd h
            refine s_getI (pc := 87) O kc4 (k := 2) rfl tw_234 e dX4_readWord_87 ?_
            refine s_iconst (pc := 90) O (v := 1) dX4_readWord_90 (by decide) ?_
            refine s_iadd (pc := 91) O dX4_readWord_91 ?_
            obtain ⟨M16, e, h⟩ := bd h
            refine s_putI (pc := 92) O kc4 (k := 2) rfl rfl rfl tw_234 e dX4_readWord_92 ?_
            have hn : M16.1 ≤ lim := by rw [wfI_n e]; exact hn
            refine s_aload_n (pc := 95) O dX4_readWord_95 rfl 2 rfl ?_
            obtain ⟨v17, e, h⟩ := bd h
            obtain ⟨hg, h⟩ := gd h
            refine s_callSi (pc := 96) O (As := [rf X.1 p1]) (c_X4_readEnd (G := X.1) e (Nat.le_of_eq hg.symm)) cy_X4_readEnd tw_379 tw_380 (by decide) rfl (Nat.le_of_eq hg.symm) (by rw [hg]; exact hn) rfl (Nat.le_of_ble_eq_true rfl) dX4_readWord_96 ?_
            have hn : v17.2.1 ≤ lim := by rw [hg]; exact hn
            obtain ⟨hz, h⟩ := gd h
            cases h
            exact s_zret (pc := 99) O hz hK dX4_readWord_99
          · have h := ifp c h
            refine s_iconst (pc := 75) O (v := 0) dX4_readWord_75 (by decide) ?_
            cases h
            exact s_zret (pc := 76) O (by decide) hK dX4_readWord_76
        · have h := ifp c h
          refine s_iconst (pc := 56) O (v := 0) dX4_readWord_56 (by decide) ?_
          cases h
          exact s_zret (pc := 57) O (by decide) hK dX4_readWord_57
      · have h := ifp c h
        refine s_iconst (pc := 37) O (v := 0) dX4_readWord_37 (by decide) ?_
        cases h
        exact s_zret (pc := 38) O (by decide) hK dX4_readWord_38
  · have h := ifn c h
    refine s_iconst (pc := 9) O (v := 0) dX4_readWord_9 (by decide) ?_
    cases h
    exact s_zret (pc := 10) O (by decide) hK dX4_readWord_10

def j_X4_readAll_73 (M : MM) (p0 : Nat) (p1 : Nat) (a2 : Int32) (s0 : Int32) : Option ((Int32 × MM) ⊕ (Int32 × MM)) :=
  if s0 = 0 then (some ((.inl (0, M)))) else (some ((.inr ((a2 + 1), M))))
set_option maxHeartbeats 4000000 in
set_option maxRecDepth 100000 in
theorem g_X4_readAll_73 {X : CT} {lim : Nat} {M : MM} {p0 : Nat} {p1 : Nat} {a2 : Int32} {s0 : Int32} (O : OKX X cX4_readAll RX4 10 lim 4) (hi : True) (hn : M.1 ≤ lim) {o : (Int32 × MM) ⊕ (Int32 × MM)} (h : j_X4_readAll_73 M p0 p1 a2 s0 = some o) (hK : (KI (fun (q : Int32 × MM) => RTX X (some .boolean) (some (.int q.1)) q.2) (fun (t : Int32 × MM) => t.2.1 ≤ lim → WS X t.2 16 [(0, rf X.1 p0), (1, rf X.1 p1), (2, .int t.1)] [])) o) : WS X M 73 [(0, rf X.1 p0), (1, rf X.1 p1), (2, .int a2)] [.int s0] := by
  unfold j_X4_readAll_73 at h
  refine s_istore_n (pc := 73) O (loc' := [(3, .int s0), (0, rf X.1 p0), (1, rf X.1 p1), (2, .int a2)]) dX4_readAll_73 rfl (by decide) rfl ?_
  refine s_iload_n (pc := 74) O dX4_readAll_74 rfl 0 rfl ?_
  refine s_if_ne (pc := 75) O (tgt := 80) dX4_readAll_75 (by decide) (fun c => ?_) (fun c => ?_)
  · have h := ifn c h
    refine s_iinc (pc := 80) O (v := (a2 + 1)) (loc' := [(2, .int (a2 + 1)), (3, .int s0), (0, rf X.1 p0), (1, rf X.1 p1)]) dX4_readAll_80 3 rfl rfl (by decide) rfl ?_
    refine s_goto (pc := 83) O (tgt := 16) dX4_readAll_83 (by decide) ?_
    cases h
    exact s_sub (pc := 16) O [2, 3, 0] rfl (hK hn)
  · have h := ifp c h
    refine s_iconst (pc := 78) O (v := 0) dX4_readAll_78 (by decide) ?_
    cases h
    exact s_zret (pc := 79) O (by decide) hK dX4_readAll_79
def j_X4_readAll_72 (M : MM) (p0 : Nat) (p1 : Nat) (a2 : Int32) : Option ((Int32 × MM) ⊕ (Int32 × MM)) :=
  j_X4_readAll_73 M p0 p1 a2 0
set_option maxHeartbeats 4000000 in
set_option maxRecDepth 100000 in
theorem g_X4_readAll_72 {X : CT} {lim : Nat} {M : MM} {p0 : Nat} {p1 : Nat} {a2 : Int32} (O : OKX X cX4_readAll RX4 10 lim 4) (hi : True) (hn : M.1 ≤ lim) {o : (Int32 × MM) ⊕ (Int32 × MM)} (h : j_X4_readAll_72 M p0 p1 a2 = some o) (hK : (KI (fun (q : Int32 × MM) => RTX X (some .boolean) (some (.int q.1)) q.2) (fun (t : Int32 × MM) => t.2.1 ≤ lim → WS X t.2 16 [(0, rf X.1 p0), (1, rf X.1 p1), (2, .int t.1)] [])) o) : WS X M 72 [(0, rf X.1 p0), (1, rf X.1 p1), (2, .int a2)] [] := by
  unfold j_X4_readAll_72 at h
  refine s_iconst (pc := 72) O (v := 0) dX4_readAll_72 (by decide) ?_
  exact s_sub (pc := 73) O [0, 1, 2] rfl (g_X4_readAll_73 O hi hn h hK)
def z_X4_readAll_16 (M : MM) (p0 : Nat) (p1 : Nat) (a2 : Int32) : Option ((Int32 × MM) ⊕ (Int32 × MM)) :=
  if (13 : Int32) < a2 then (some ((.inl (0, M)))) else ((f_X3_advance M p1).bind fun M1 => if M1.1 = M.1 then ((fI M1 p1 3 4).bind fun v2 => if v2 = 0 then (some ((.inl (1, M1)))) else ((fI M1 p1 3 4).bind fun v3 => if v3 = 5 then ((f_X4_readWord M1 p0 p1).bind fun v6 => if v6.2.1 = M1.1 then (j_X4_readAll_73 v6.2 p0 p1 a2 v6.1) else none) else ((fI M1 p1 3 4).bind fun v4 => if v4 = 6 then ((f_X4_readShape M1 p0 p1).bind fun v5 => if v5.2.1 = M1.1 then (if v5.1 = 0 then (j_X4_readAll_72 v5.2 p0 p1 a2) else (j_X4_readAll_73 v5.2 p0 p1 a2 1)) else none) else (j_X4_readAll_72 M1 p0 p1 a2)))) else none)
set_option maxHeartbeats 4000000 in
set_option maxRecDepth 100000 in
theorem b_X4_readAll_16 {X : CT} {lim : Nat} {M : MM} {p0 : Nat} {p1 : Nat} {a2 : Int32} (O : OKX X cX4_readAll RX4 10 lim 4) (hi : True) (hn : M.1 ≤ lim) {o : (Int32 × MM) ⊕ (Int32 × MM)} (h : z_X4_readAll_16 M p0 p1 a2 = some o) (hK : (KI (fun (q : Int32 × MM) => RTX X (some .boolean) (some (.int q.1)) q.2) (fun (t : Int32 × MM) => t.2.1 ≤ lim → WS X t.2 16 [(0, rf X.1 p0), (1, rf X.1 p1), (2, .int t.1)] [])) o) : WS X M 16 [(0, rf X.1 p0), (1, rf X.1 p1), (2, .int a2)] [] := by
  unfold z_X4_readAll_16 at h
  refine s_iload_n (pc := 16) O dX4_readAll_16 rfl 2 rfl ?_
  refine s_bipush (pc := 17) O (v := 13) dX4_readAll_17 (by decide) ?_
  refine s_icmp_gt (pc := 19) O (tgt := 86) dX4_readAll_19 (by decide) (fun c => ?_) (fun c => ?_)
  · have h := ifp c h
    refine s_iconst (pc := 86) O (v := 0) dX4_readAll_86 (by decide) ?_
    cases h
    exact s_zret (pc := 87) O (by decide) hK dX4_readAll_87
  · have h := ifn c h
    refine s_aload_n (pc := 22) O dX4_readAll_22 rfl 1 rfl ?_
    obtain ⟨M1, e, h⟩ := bd h
    obtain ⟨hg, h⟩ := gd h
    refine s_callVv (pc := 23) O (As := []) kc3 (c_X3_advance (G := X.1) e (Nat.le_of_eq hg.symm)) cy_X3_advance tw_295 tw_296 tw_297 (by decide) rfl (Nat.le_of_eq hg.symm) (by rw [hg]; exact hn) (r_X3_advance e).1 (r_X3_advance e).2 rfl (Nat.le_of_ble_eq_true rfl) dX4_readAll_23 ?_
    have hn : M1.1 ≤ lim := by rw [hg]; exact hn
    refine s_aload_n (pc := 26) O dX4_readAll_26 rfl 1 rfl ?_
    obtain ⟨v2, e, h⟩ := bd h
    refine s_getI (pc := 27) O kc3 (k := 4) rfl tw_77 e dX4_readAll_27 ?_
    refine s_if_ne (pc := 30) O (tgt := 35) dX4_readAll_30 (by decide) (fun c => ?_) (fun c => ?_)
    · have h := ifn c h
      refine s_aload_n (pc := 35) O dX4_readAll_35 rfl 1 rfl ?_
      obtain ⟨v3, e, h⟩ := bd h
      refine s_getI (pc := 36) O kc3 (k := 4) rfl tw_77 e dX4_readAll_36 ?_
      refine s_iconst (pc := 39) O (v := 5) dX4_readAll_39 (by decide) ?_
      refine s_icmp_ne (pc := 40) O (tgt := 51) dX4_readAll_40 (by decide) (fun c => ?_) (fun c => ?_)
      · have h := ifn c h
        refine s_aload_n (pc := 51) O dX4_readAll_51 rfl 1 rfl ?_
        obtain ⟨v4, e, h⟩ := bd h
        refine s_getI (pc := 52) O kc3 (k := 4) rfl tw_77 e dX4_readAll_52 ?_
        refine s_bipush (pc := 55) O (v := 6) dX4_readAll_55 (by decide) ?_
        refine s_icmp_ne (pc := 57) O (tgt := 72) dX4_readAll_57 (by decide) (fun c => ?_) (fun c => ?_)
        · have h := ifn c h
          exact s_sub (pc := 72) O [0, 1, 2] rfl (g_X4_readAll_72 O hi hn h hK)
        · have h := ifp c h
          refine s_aload_n (pc := 60) O dX4_readAll_60 rfl 0 rfl ?_
          refine s_aload_n (pc := 61) O dX4_readAll_61 rfl 1 rfl ?_
          obtain ⟨v5, e, h⟩ := bd h
          obtain ⟨hg, h⟩ := gd h
          refine s_callVi (pc := 62) O (As := [rf X.1 p1]) kc4 (c_X4_readShape (G := X.1) e (Nat.le_of_eq hg.symm)) cy_X4_readShape tw_382 tw_384 tw_5 (by decide) rfl (Nat.le_of_eq hg.symm) (by rw [hg]; exact hn) (r_X4_readShape e).1 (r_X4_readShape e).2 rfl (Nat.le_of_ble_eq_true rfl) dX4_readAll_62 ?_
          have hn : v5.2.1 ≤ lim := by rw [hg]; exact hn
          refine s_if_eq (pc := 65) O (tgt := 72) dX4_readAll_65 (by decide) (fun c => ?_) (fun c => ?_)
          · have h := ifp c h
            exact s_sub (pc := 72) O [0, 1, 2] rfl (g_X4_readAll_72 O hi hn h hK)
          · have h := ifn c h
            refine s_iconst (pc := 68) O (v := 1) dX4_readAll_68 (by decide) ?_
            refine s_goto (pc := 69) O (tgt := 73) dX4_readAll_69 (by decide) ?_
            exact s_sub (pc := 73) O [0, 1, 2] rfl (g_X4_readAll_73 O hi hn h hK)
      · have h := ifp c h
        refine s_aload_n (pc := 43) O dX4_readAll_43 rfl 0 rfl ?_
        refine s_aload_n (pc := 44) O dX4_readAll_44 rfl 1 rfl ?_
        obtain ⟨v6, e, h⟩ := bd h
        obtain ⟨hg, h⟩ := gd h
        refine s_callVi (pc := 45) O (As := [rf X.1 p1]) kc4 (c_X4_readWord (G := X.1) e (Nat.le_of_eq hg.symm)) cy_X4_readWord tw_368 tw_370 tw_4 (by decide) rfl (Nat.le_of_eq hg.symm) (by rw [hg]; exact hn) (r_X4_readWord e).1 (r_X4_readWord e).2 rfl (Nat.le_of_ble_eq_true rfl) dX4_readAll_45 ?_
        have hn : v6.2.1 ≤ lim := by rw [hg]; exact hn
        refine s_goto (pc := 48) O (tgt := 73) dX4_readAll_48 (by decide) ?_
        exact s_sub (pc := 73) O [0, 1, 2] rfl (g_X4_readAll_73 O hi hn h hK)
    · have h := ifp c h
      refine s_iconst (pc := 33) O (v := 1) dX4_readAll_33 (by decide) ?_
      cases h
      exact s_zret (pc := 34) O (by decide) hK dX4_readAll_34
set_option maxHeartbeats 4000000 in
set_option maxRecDepth 100000 in
theorem l_X4_readAll_16 {X : CT} {lim : Nat} {M : MM} {p0 : Nat} {p1 : Nat} {a2 : Int32} (O : OKX X cX4_readAll RX4 10 lim 4) (hi : True) (hn : M.1 ≤ lim) {o : Int32 × MM} {n : Nat} (h : lp (fun t => z_X4_readAll_16 t.2 p0 p1 t.1) n (a2, M) = some o) (hK : (fun (q : Int32 × MM) => RTX X (some .boolean) (some (.int q.1)) q.2) o) : WS X M 16 [(0, rf X.1 p0), (1, rf X.1 p1), (2, .int a2)] [] := by
  refine lp_ind (P := fun (o : Int32 × MM) (t : Int32 × MM) => t.2.1 ≤ lim → (fun (q : Int32 × MM) => RTX X (some .boolean) (some (.int q.1)) q.2) o → WS X t.2 16 [(0, rf X.1 p0), (1, rf X.1 p1), (2, .int t.1)] []) (fun t o hs hn hK => ?_) n (a2, M) o h hn hK
  rcases hs with h | ⟨u, h, hu⟩
  · exact b_X4_readAll_16 O hi hn h hK
  · exact b_X4_readAll_16 O hi hn h (show KI _ _ (.inr u) from fun hn => hu hn hK)
def f_X4_readAll (M : MM) (p0 : Nat) (p1 : Nat) : Option (Int32 × MM) :=
  if p0 < M.1 ∧ kd p0 = 4 then ((wfI M p0 4 2 0).bind fun M1 => (wfI M1 p0 4 3 0).bind fun M2 => (f_X3_rewind M2 p1).bind fun M3 => if M3.1 = M2.1 then (lp (fun t => z_X4_readAll_16 t.2 p0 p1 t.1) FU (0, M3)) else none) else none
theorem r_X4_readAll {M : MM} {p0 : Nat} {p1 : Nat} {o : Int32 × MM} (h : f_X4_readAll M p0 p1 = some o) : p0 < M.1 ∧ kd p0 = 4 := by
  unfold f_X4_readAll at h
  exact (gd h).1
theorem cy_X4_readAll : CallY yX4_readAll cX4_readAll 4 (some .boolean) 1 := ⟨by decide +kernel, tw_290, tw_44, by decide⟩
set_option maxHeartbeats 4000000 in
set_option maxRecDepth 100000 in
theorem c_X4_readAll {G : GG} {M : MM} {p0 : Nat} {p1 : Nat} {r : Int32} {M' : MM} (h : f_X4_readAll M p0 p1 = some (r, M')) (hn : M.1 ≤ M'.1) : Ct G yX4_readAll cX4_readAll 4 (some .boolean) 10 [rf G p0, rf G p1] M (some (.int r)) M' := by
  refine ct_of (by decide +kernel) (Nat.le_of_ble_eq_true rfl) (fun X hX O hK hi0 => ?_)
  subst hX
  obtain ⟨lim, hlim⟩ : ∃ z, z = M'.1 := ⟨_, rfl⟩
  rw [← hlim] at O hn
  replace O : OKX X cX4_readAll RX4 10 lim 4 := O
  have hi : True := trivial
  show WS X M 0 [(0, rf X.1 p0), (1, rf X.1 p1)] []
  replace hK : (fun (q : Int32 × MM) => RTX X (some .boolean) (some (.int q.1)) q.2) (r, M') := hK
  generalize (r, M') = o at h hK
  unfold f_X4_readAll at h
  obtain ⟨hg0, h⟩ := gd h
  refine s_aload_n (pc := 0) O dX4_readAll_0 rfl 0 rfl ?_
  refine s_iconst (pc := 1) O (v := 0) dX4_readAll_1 (by decide) ?_
  obtain ⟨M1, e, h⟩ := bd h
  refine s_putI (pc := 2) O kc4 (k := 2) rfl rfl rfl tw_234 e dX4_readAll_2 ?_
  have hn : M1.1 ≤ lim := by rw [wfI_n e]; exact hn
  refine s_aload_n (pc := 5) O dX4_readAll_5 rfl 0 rfl ?_
  refine s_iconst (pc := 6) O (v := 0) dX4_readAll_6 (by decide) ?_
  obtain ⟨M2, e, h⟩ := bd h
  refine s_putI (pc := 7) O kc4 (k := 3) rfl rfl rfl tw_237 e dX4_readAll_7 ?_
  have hn : M2.1 ≤ lim := by rw [wfI_n e]; exact hn
  refine s_aload_n (pc := 10) O dX4_readAll_10 rfl 1 rfl ?_
  obtain ⟨M3, e, h⟩ := bd h
  obtain ⟨hg, h⟩ := gd h
  refine s_callVv (pc := 11) O (As := []) kc3 (c_X3_rewind (G := X.1) e (Nat.le_of_eq hg.symm)) cy_X3_rewind tw_291 tw_292 tw_293 (by decide) rfl (Nat.le_of_eq hg.symm) (by rw [hg]; exact hn) (r_X3_rewind e).1 (r_X3_rewind e).2 rfl (Nat.le_of_ble_eq_true rfl) dX4_readAll_11 ?_
  have hn : M3.1 ≤ lim := by rw [hg]; exact hn
  refine s_iconst (pc := 14) O (v := 0) dX4_readAll_14 (by decide) ?_
  refine s_istore_n (pc := 15) O (loc' := [(2, .int 0), (0, rf X.1 p0), (1, rf X.1 p1)]) dX4_readAll_15 rfl (by decide) rfl ?_
  exact s_sub (pc := 16) O [1, 2, 0] rfl (l_X4_readAll_16 O hi hn h hK)

def z_X6_tongue_72 (M : MM) (p0 : Nat) (a2 : Int32) : Option ((Int32 × MM) ⊕ (Int32 × MM)) :=
  if (2 : Int32) ≤ a2 then (((fR M p0 6 4).bind fun v1 => (fI M v1 4 2).bind fun v2 => (fR M p0 6 4).bind fun v3 => (fI M v3 4 3).bind fun v4 => some (((v2 + v4), M))).map .inl) else ((fR M p0 6 3).bind fun v5 => (aR M v5 11 a2).bind fun v6 => (wfZ M v6 0 2 0).bind fun M7 => some ((.inr ((a2 + 1), M7))))
set_option maxHeartbeats 4000000 in
set_option maxRecDepth 100000 in
theorem b_X6_tongue_72 {X : CT} {lim : Nat} {M : MM} {p0 : Nat} {a2 : Int32} (O : OKX X cX6_tongue RX6 11 lim 3) (hi : True) (hn : M.1 ≤ lim) {o : (Int32 × MM) ⊕ (Int32 × MM)} (h : z_X6_tongue_72 M p0 a2 = some o) (hK : (KI (fun (q : Int32 × MM) => RTX X (some .int) (some (.int q.1)) q.2) (fun (t : Int32 × MM) => t.2.1 ≤ lim → WS X t.2 72 [(0, rf X.1 p0), (2, .int t.1)] [])) o) : WS X M 72 [(0, rf X.1 p0), (2, .int a2)] [] := by
  unfold z_X6_tongue_72 at h
  refine s_iload_n (pc := 72) O dX6_tongue_72 rfl 1 rfl ?_
  refine s_iconst (pc := 73) O (v := 2) dX6_tongue_73 (by decide) ?_
  refine s_icmp_ge (pc := 74) O (tgt := 93) dX6_tongue_74 (by decide) (fun c => ?_) (fun c => ?_)
  · have h := ifp c h
    obtain ⟨q0, hq0, ho0⟩ := mpi h; subst ho0; replace h := hq0
    refine s_aload_n (pc := 93) O dX6_tongue_93 rfl 0 rfl ?_
    obtain ⟨v1, e, h⟩ := bd h
    refine s_getR (pc := 94) O kc6 (k := 4) rfl tw_253 e dX6_tongue_94 ?_
    obtain ⟨v2, e, h⟩ := bd h
    refine s_getI (pc := 97) O kc4 (k := 2) rfl tw_236 e dX6_tongue_97 ?_
    refine s_aload_n (pc := 100) O dX6_tongue_100 rfl 0 rfl ?_
    obtain ⟨v3, e, h⟩ := bd h
    refine s_getR (pc := 101) O kc6 (k := 4) rfl tw_253 e dX6_tongue_101 ?_
    obtain ⟨v4, e, h⟩ := bd h
    refine s_getI (pc := 104) O kc4 (k := 3) rfl tw_239 e dX6_tongue_104 ?_
    refine s_iadd (pc := 107) O dX6_tongue_107 ?_
    replace hK := kcast (K := (fun (q : Int32 × MM) => RTX X (some .int) (some (.int q.1)) q.2)) h hK
    exact s_iret (pc := 108) O hK dX6_tongue_108
  · have h := ifn c h
    refine s_aload_n (pc := 77) O dX6_tongue_77 rfl 0 rfl ?_
    obtain ⟨v5, e, h⟩ := bd h
    refine s_getR (pc := 78) O kc6 (k := 3) rfl tw_252 e dX6_tongue_78 ?_
    refine s_iload_n (pc := 81) O dX6_tongue_81 rfl 1 rfl ?_
    obtain ⟨v6, e, h⟩ := bd h
    refine s_aldR11 (pc := 82) O e dX6_tongue_82 ?_
    refine s_iconst (pc := 83) O (v := 0) dX6_tongue_83 (by decide) ?_
    obtain ⟨M7, e, h⟩ := bd h
    refine s_putZ (pc := 84) O kc0 (k := 2) rfl rfl rfl tw_161 e dX6_tongue_84 ?_
    have hn : M7.1 ≤ lim := by rw [wfZ_n e]; exact hn
    refine s_iinc (pc := 87) O (v := (a2 + 1)) (loc' := [(2, .int (a2 + 1)), (0, rf X.1 p0)]) dX6_tongue_87 1 rfl rfl (by decide) rfl ?_
    refine s_goto (pc := 90) O (tgt := 72) dX6_tongue_90 (by decide) ?_
    replace hK := kcast (K := (KI (fun (q : Int32 × MM) => RTX X (some .int) (some (.int q.1)) q.2) (fun (t : Int32 × MM) => t.2.1 ≤ lim → WS X t.2 72 [(0, rf X.1 p0), (2, .int t.1)] []))) h hK
    exact s_sub (pc := 72) O [1, 0] rfl (hK hn)
set_option maxHeartbeats 4000000 in
set_option maxRecDepth 100000 in
theorem l_X6_tongue_72 {X : CT} {lim : Nat} {M : MM} {p0 : Nat} {a2 : Int32} (O : OKX X cX6_tongue RX6 11 lim 3) (hi : True) (hn : M.1 ≤ lim) {o : Int32 × MM} {n : Nat} (h : lp (fun t => z_X6_tongue_72 t.2 p0 t.1) n (a2, M) = some o) (hK : (fun (q : Int32 × MM) => RTX X (some .int) (some (.int q.1)) q.2) o) : WS X M 72 [(0, rf X.1 p0), (2, .int a2)] [] := by
  refine lp_ind (P := fun (o : Int32 × MM) (t : Int32 × MM) => t.2.1 ≤ lim → (fun (q : Int32 × MM) => RTX X (some .int) (some (.int q.1)) q.2) o → WS X t.2 72 [(0, rf X.1 p0), (2, .int t.1)] []) (fun t o hs hn hK => ?_) n (a2, M) o h hn hK
  rcases hs with h | ⟨u, h, hu⟩
  · exact b_X6_tongue_72 O hi hn h hK
  · exact b_X6_tongue_72 O hi hn h (show KI _ _ (.inr u) from fun hn => hu hn hK)
def f_X6_tongue (M : MM) (p0 : Nat) : Option (Int32 × MM) :=
  if p0 < M.1 ∧ kd p0 = 6 then ((fR M p0 6 5).bind fun v1 => (fR M p0 6 0).bind fun v2 => (f_X4_readAll M v1 v2).bind fun v3 => if v3.2.1 = M.1 then (if v3.1 = 0 then ((fR v3.2 p0 6 0).bind fun v15 => (fI v3.2 v15 3 2).bind fun v16 => some ((((-10) - v16), v3.2))) else ((fR v3.2 p0 6 4).bind fun v4 => (fR v3.2 p0 6 5).bind fun v5 => (wfR v3.2 p0 6 4 v5).bind fun M6 => (wfR M6 p0 6 5 v4).bind fun M7 => (fR M7 p0 6 0).bind fun v8 => (wfI M7 v8 3 1 0).bind fun M9 => (fR M9 p0 6 1).bind fun v10 => (fR M9 p0 6 4).bind fun v11 => (f_X1_fill M9 v10 v11).bind fun M12 => if M12.1 = M9.1 then ((fR M12 p0 6 2).bind fun v13 => (wfI M12 v13 0 1 0).bind fun M14 => lp (fun t => z_X6_tongue_72 t.2 p0 t.1) FU (0, M14)) else none)) else none) else none
theorem r_X6_tongue {M : MM} {p0 : Nat} {o : Int32 × MM} (h : f_X6_tongue M p0 = some o) : p0 < M.1 ∧ kd p0 = 6 := by
  unfold f_X6_tongue at h
  exact (gd h).1
theorem cy_X6_tongue : CallY yX6_tongue cX6_tongue 3 (some .int) 0 := ⟨by decide +kernel, tw_286, tw_40, by decide⟩
set_option maxHeartbeats 4000000 in
set_option maxRecDepth 100000 in
theorem c_X6_tongue {G : GG} {M : MM} {p0 : Nat} {r : Int32} {M' : MM} (h : f_X6_tongue M p0 = some (r, M')) (hn : M.1 ≤ M'.1) : Ct G yX6_tongue cX6_tongue 3 (some .int) 11 [rf G p0] M (some (.int r)) M' := by
  refine ct_of (by decide +kernel) (Nat.le_of_ble_eq_true rfl) (fun X hX O hK hi0 => ?_)
  subst hX
  obtain ⟨lim, hlim⟩ : ∃ z, z = M'.1 := ⟨_, rfl⟩
  rw [← hlim] at O hn
  replace O : OKX X cX6_tongue RX6 11 lim 3 := O
  have hi : True := trivial
  show WS X M 0 [(0, rf X.1 p0)] []
  replace hK : (fun (q : Int32 × MM) => RTX X (some .int) (some (.int q.1)) q.2) (r, M') := hK
  generalize (r, M') = o at h hK
  unfold f_X6_tongue at h
  obtain ⟨hg0, h⟩ := gd h
  refine s_aload_n (pc := 0) O dX6_tongue_0 rfl 0 rfl ?_
  obtain ⟨v1, e, h⟩ := bd h
  refine s_getR (pc := 1) O kc6 (k := 5) rfl tw_254 e dX6_tongue_1 ?_
  refine s_aload_n (pc := 4) O dX6_tongue_4 rfl 0 rfl ?_
  obtain ⟨v2, e, h⟩ := bd h
  refine s_getR (pc := 5) O kc6 (k := 0) rfl tw_249 e dX6_tongue_5 ?_
  obtain ⟨v3, e, h⟩ := bd h
  obtain ⟨hg, h⟩ := gd h
  refine s_callVi (pc := 8) O (As := [rf X.1 v2]) kc4 (c_X4_readAll (G := X.1) e (Nat.le_of_eq hg.symm)) cy_X4_readAll tw_287 tw_288 tw_289 (by decide) rfl (Nat.le_of_eq hg.symm) (by rw [hg]; exact hn) (r_X4_readAll e).1 (r_X4_readAll e).2 rfl (Nat.le_of_ble_eq_true rfl) dX6_tongue_8 ?_
  have hn : v3.2.1 ≤ lim := by rw [hg]; exact hn
  refine s_if_ne (pc := 11) O (tgt := 25) dX6_tongue_11 (by decide) (fun c => ?_) (fun c => ?_)
  · have h := ifn c h
    refine s_aload_n (pc := 25) O dX6_tongue_25 rfl 0 rfl ?_
    obtain ⟨v4, e, h⟩ := bd h
    refine s_getR (pc := 26) O kc6 (k := 4) rfl tw_253 e dX6_tongue_26 ?_
    refine s_astore_n (pc := 29) O (loc' := [(1, rf X.1 v4), (0, rf X.1 p0)]) dX6_tongue_29 rfl (by decide) rfl ?_
    refine s_aload_n (pc := 30) O dX6_tongue_30 rfl 1 rfl ?_
    refine s_aload_n (pc := 31) O dX6_tongue_31 rfl 1 rfl ?_
    obtain ⟨v5, e, h⟩ := bd h
    refine s_getR (pc := 32) O kc6 (k := 5) rfl tw_254 e dX6_tongue_32 ?_
    obtain ⟨M6, e, h⟩ := bd h
    refine s_putR (pc := 35) O kc6 (k := 4) rfl (Or.inl ⟨_, rfl⟩) rfl tw_253 e dX6_tongue_35 ?_
    have hn : M6.1 ≤ lim := by rw [wfR_n e]; exact hn
    refine s_aload_n (pc := 38) O dX6_tongue_38 rfl 1 rfl ?_
    refine s_aload_n (pc := 39) O dX6_tongue_39 rfl 0 rfl ?_
    obtain ⟨M7, e, h⟩ := bd h
    refine s_putR (pc := 40) O kc6 (k := 5) rfl (Or.inl ⟨_, rfl⟩) rfl tw_254 e dX6_tongue_40 ?_
    have hn : M7.1 ≤ lim := by rw [wfR_n e]; exact hn
    refine s_aload_n (pc := 43) O dX6_tongue_43 rfl 1 rfl ?_
    obtain ⟨v8, e, h⟩ := bd h
    refine s_getR (pc := 44) O kc6 (k := 0) rfl tw_249 e dX6_tongue_44 ?_
    refine s_iconst (pc := 47) O (v := 0) dX6_tongue_47 (by decide) ?_
    obtain ⟨M9, e, h⟩ := bd h
    refine s_putI (pc := 48) O kc3 (k := 1) rfl rfl rfl tw_71 e dX6_tongue_48 ?_
    have hn : M9.1 ≤ lim := by rw [wfI_n e]; exact hn
    refine s_aload_n (pc := 51) O dX6_tongue_51 rfl 1 rfl ?_
    obtain ⟨v10, e, h⟩ := bd h
    refine s_getR (pc := 52) O kc6 (k := 1) rfl tw_250 e dX6_tongue_52 ?_
    refine s_aload_n (pc := 55) O dX6_tongue_55 rfl 1 rfl ?_
    obtain ⟨v11, e, h⟩ := bd h
    refine s_getR (pc := 56) O kc6 (k := 4) rfl tw_253 e dX6_tongue_56 ?_
    obtain ⟨M12, e, h⟩ := bd h
    obtain ⟨hg, h⟩ := gd h
    refine s_callVv (pc := 59) O (As := [rf X.1 v11]) kc1 (c_X1_fill (G := X.1) e (Nat.le_of_eq hg.symm)) cy_X1_fill tw_386 tw_387 tw_388 (by decide) rfl (Nat.le_of_eq hg.symm) (by rw [hg]; exact hn) (r_X1_fill e).1 (r_X1_fill e).2 rfl (Nat.le_of_ble_eq_true rfl) dX6_tongue_59 ?_
    have hn : M12.1 ≤ lim := by rw [hg]; exact hn
    refine s_aload_n (pc := 62) O dX6_tongue_62 rfl 1 rfl ?_
    obtain ⟨v13, e, h⟩ := bd h
    refine s_getR (pc := 63) O kc6 (k := 2) rfl tw_251 e dX6_tongue_63 ?_
    refine s_iconst (pc := 66) O (v := 0) dX6_tongue_66 (by decide) ?_
    obtain ⟨M14, e, h⟩ := bd h
    refine s_putI (pc := 67) O kc0 (k := 1) rfl rfl rfl tw_160 e dX6_tongue_67 ?_
    have hn : M14.1 ≤ lim := by rw [wfI_n e]; exact hn
    refine s_iconst (pc := 70) O (v := 0) dX6_tongue_70 (by decide) ?_
    refine s_istore_n (pc := 71) O (loc' := [(2, .int 0), (1, rf X.1 v4), (0, rf X.1 p0)]) dX6_tongue_71 rfl (by decide) rfl ?_
    exact s_sub (pc := 72) O [2, 0] rfl (l_X6_tongue_72 O hi hn h hK)
  · have h := ifp c h
    refine s_bipush (pc := 14) O (v := (-10)) dX6_tongue_14 (by decide) ?_
    refine s_aload_n (pc := 16) O dX6_tongue_16 rfl 0 rfl ?_
    obtain ⟨v15, e, h⟩ := bd h
    refine s_getR (pc := 17) O kc6 (k := 0) rfl tw_249 e dX6_tongue_17 ?_
    obtain ⟨v16, e, h⟩ := bd h
    refine s_getI (pc := 20) O kc3 (k := 2) rfl tw_73 e dX6_tongue_20 ?_
    refine s_isub (pc := 23) O dX6_tongue_23 ?_
    replace hK := kcast (K := (fun (q : Int32 × MM) => RTX X (some .int) (some (.int q.1)) q.2)) h hK
    exact s_iret (pc := 24) O hK dX6_tongue_24

