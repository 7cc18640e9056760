def z_X7_adds_44 (M : MM) (p0 : Nat) (a1 : Int32) (a2 : Int32) : Option ((MM) ⊕ (Int32 × MM)) :=
  (fR M p0 7 3).bind fun v1 => (aI M v1 ((30 + a1))).bind fun v2 => if v2 ≤ a2 then (some ((.inl M))) else ((fR M p0 7 9).bind fun v3 => (fI M p0 7 12).bind fun v4 => (aI M v3 v4).bind fun v5 => (fR M p0 7 3).bind fun v6 => (aI M v6 (((39 + (5 * a1)) + a2))).bind fun v7 => (waI M v3 v4 ((v5 + (1 <<< ((4 * v7) &&& 31))))).bind fun M8 => some ((.inr ((a2 + 1), M8))))
set_option maxHeartbeats 4000000 in
set_option maxRecDepth 100000 in
theorem b_X7_adds_44 {X : CT} {lim : Nat} {M : MM} {p0 : Nat} {a1 : Int32} {a2 : Int32} (O : OKX X cX7_adds RX7 0 lim 3) (hi : True) (hn : M.1 ≤ lim) {o : (MM) ⊕ (Int32 × MM)} (h : z_X7_adds_44 M p0 a1 a2 = some o) (hK : (KI (fun (q : MM) => RTX X none none q) (fun (t : Int32 × MM) => t.2.1 ≤ lim → WS X t.2 44 [(0, rf X.1 p0), (1, .int a1), (2, .int t.1)] [])) o) : WS X M 44 [(0, rf X.1 p0), (1, .int a1), (2, .int a2)] [] := by
  unfold z_X7_adds_44 at h
  refine s_iload_n (pc := 44) O dX7_adds_44 rfl 2 rfl ?_
  refine s_aload_n (pc := 45) O dX7_adds_45 rfl 0 rfl ?_
  obtain ⟨v1, e, h⟩ := bd h
  refine s_getR (pc := 46) O kc7 (k := 3) rfl tw_674 e dX7_adds_46 ?_
  refine s_bipush (pc := 49) O (v := 30) dX7_adds_49 (by decide) ?_
  refine s_iload_n (pc := 51) O dX7_adds_51 rfl 1 rfl ?_
  refine s_iadd (pc := 52) O dX7_adds_52 ?_
  obtain ⟨v2, e, h⟩ := bd h
  refine s_aldI (pc := 53) O e dX7_adds_53 ?_
  refine s_icmp_ge (pc := 54) O (tgt := 92) dX7_adds_54 (by decide) (fun c => ?_) (fun c => ?_)
  · have h := ifp c h
    cases h
    exact s_vret (pc := 92) O hK dX7_adds_92
  · have h := ifn c h
    refine s_aload_n (pc := 57) O dX7_adds_57 rfl 0 rfl ?_
    obtain ⟨v3, e, h⟩ := bd h
    refine s_getR (pc := 58) O kc7 (k := 9) rfl tw_680 e dX7_adds_58 ?_
    refine s_aload_n (pc := 61) O dX7_adds_61 rfl 0 rfl ?_
    obtain ⟨v4, e, h⟩ := bd h
    refine s_getI (pc := 62) O kc7 (k := 12) rfl tw_683 e dX7_adds_62 ?_
    refine s_dup2 (pc := 65) O dX7_adds_65 rfl rfl ?_
    obtain ⟨v5, e, h⟩ := bd h
    refine s_aldI (pc := 66) O e dX7_adds_66 ?_
    refine s_iconst (pc := 67) O (v := 1) dX7_adds_67 (by decide) ?_
    refine s_iconst (pc := 68) O (v := 4) dX7_adds_68 (by decide) ?_
    refine s_aload_n (pc := 69) O dX7_adds_69 rfl 0 rfl ?_
    obtain ⟨v6, e, h⟩ := bd h
    refine s_getR (pc := 70) O kc7 (k := 3) rfl tw_674 e dX7_adds_70 ?_
    refine s_bipush (pc := 73) O (v := 39) dX7_adds_73 (by decide) ?_
    refine s_iconst (pc := 75) O (v := 5) dX7_adds_75 (by decide) ?_
    refine s_iload_n (pc := 76) O dX7_adds_76 rfl 1 rfl ?_
    refine s_imul (pc := 77) O dX7_adds_77 ?_
    refine s_iadd (pc := 78) O dX7_adds_78 ?_
    refine s_iload_n (pc := 79) O dX7_adds_79 rfl 2 rfl ?_
    refine s_iadd (pc := 80) O dX7_adds_80 ?_
    obtain ⟨v7, e, h⟩ := bd h
    refine s_aldI (pc := 81) O e dX7_adds_81 ?_
    refine s_imul (pc := 82) O dX7_adds_82 ?_
    refine s_ishl (pc := 83) O dX7_adds_83 ?_
    refine s_iadd (pc := 84) O dX7_adds_84 ?_
    obtain ⟨M8, e, h⟩ := bd h
    refine s_astI (pc := 85) O e dX7_adds_85 ?_
    have hn : M8.1 ≤ lim := by rw [waI_n e]; exact hn
    refine s_iinc (pc := 86) O (v := (a2 + 1)) (loc' := [(2, .int (a2 + 1)), (0, rf X.1 p0), (1, .int a1)]) dX7_adds_86 2 rfl rfl (by decide) rfl ?_
    refine s_goto (pc := 89) O (tgt := 44) dX7_adds_89 (by decide) ?_
    cases h
    exact s_sub (pc := 44) O [1, 2, 0] rfl (hK hn)
set_option maxHeartbeats 4000000 in
set_option maxRecDepth 100000 in
theorem l_X7_adds_44 {X : CT} {lim : Nat} {M : MM} {p0 : Nat} {a1 : Int32} {a2 : Int32} (O : OKX X cX7_adds RX7 0 lim 3) (hi : True) (hn : M.1 ≤ lim) {o : MM} {n : Nat} (h : lp (fun t => z_X7_adds_44 t.2 p0 a1 t.1) n (a2, M) = some o) (hK : (fun (q : MM) => RTX X none none q) o) : WS X M 44 [(0, rf X.1 p0), (1, .int a1), (2, .int a2)] [] := by
  refine lp_ind (P := fun (o : MM) (t : Int32 × MM) => t.2.1 ≤ lim → (fun (q : MM) => RTX X none none q) o → WS X t.2 44 [(0, rf X.1 p0), (1, .int a1), (2, .int t.1)] []) (fun t o hs hn hK => ?_) n (a2, M) o h hn hK
  rcases hs with h | ⟨u, h, hu⟩
  · exact b_X7_adds_44 O hi hn h hK
  · exact b_X7_adds_44 O hi hn h (show KI _ _ (.inr u) from fun hn => hu hn hK)
def f_X7_adds (M : MM) (p0 : Nat) (a1 : Int32) : Option (MM) :=
  if p0 < M.1 ∧ kd p0 = 7 then ((fR M p0 7 10).bind fun v1 => (fI M p0 7 12).bind fun v2 => (aI M v1 v2).bind fun v3 => (fR M p0 7 3).bind fun v4 => (aI M v4 ((12 + a1))).bind fun v5 => (waI M v1 v2 ((v3 + v5))).bind fun M6 => (fR M6 p0 7 11).bind fun v7 => (fI M6 p0 7 12).bind fun v8 => (aI M6 v7 v8).bind fun v9 => (fR M6 p0 7 3).bind fun v10 => (aI M6 v10 ((21 + a1))).bind fun v11 => (waI M6 v7 v8 ((v9 + v11))).bind fun M12 => lp (fun t => z_X7_adds_44 t.2 p0 a1 t.1) FU (0, M12)) else none
theorem r_X7_adds {M : MM} {p0 : Nat} {a1 : Int32} {o : MM} (h : f_X7_adds M p0 a1 = some o) : p0 < M.1 ∧ kd p0 = 7 := by
  unfold f_X7_adds at h
  exact (gd h).1
theorem cy_X7_adds : CallY yX7_adds cX7_adds 3 (none) 1 := ⟨by decide +kernel, tw_670, tw_47, by decide⟩
set_option maxHeartbeats 4000000 in
set_option maxRecDepth 100000 in
theorem c_X7_adds {G : GG} {M : MM} {p0 : Nat} {a1 : Int32} {M' : MM} (h : f_X7_adds M p0 a1 = some M') (hn : M.1 ≤ M'.1) : Ct G yX7_adds cX7_adds 3 (none) 0 [rf G p0, .int a1] M (none) M' := by
  refine ct_of (by decide +kernel) (Nat.le_of_ble_eq_true rfl) (fun X hX O hK hi0 => ?_)
  subst hX
  obtain ⟨lim, hlim⟩ : ∃ z, z = M'.1 := ⟨_, rfl⟩
  rw [← hlim] at O hn
  replace O : OKX X cX7_adds RX7 0 lim 3 := O
  have hi : True := trivial
  show WS X M 0 [(0, rf X.1 p0), (1, .int a1)] []
  unfold f_X7_adds at h
  obtain ⟨hg0, h⟩ := gd h
  refine s_aload_n (pc := 0) O dX7_adds_0 rfl 0 rfl ?_
  obtain ⟨v1, e, h⟩ := bd h
  refine s_getR (pc := 1) O kc7 (k := 10) rfl tw_681 e dX7_adds_1 ?_
  refine s_aload_n (pc := 4) O dX7_adds_4 rfl 0 rfl ?_
  obtain ⟨v2, e, h⟩ := bd h
  refine s_getI (pc := 5) O kc7 (k := 12) rfl tw_683 e dX7_adds_5 ?_
  refine s_dup2 (pc := 8) O dX7_adds_8 rfl rfl ?_
  obtain ⟨v3, e, h⟩ := bd h
  refine s_aldI (pc := 9) O e dX7_adds_9 ?_
  refine s_aload_n (pc := 10) O dX7_adds_10 rfl 0 rfl ?_
  obtain ⟨v4, e, h⟩ := bd h
  refine s_getR (pc := 11) O kc7 (k := 3) rfl tw_674 e dX7_adds_11 ?_
  refine s_bipush (pc := 14) O (v := 12) dX7_adds_14 (by decide) ?_
  refine s_iload_n (pc := 16) O dX7_adds_16 rfl 1 rfl ?_
  refine s_iadd (pc := 17) O dX7_adds_17 ?_
  obtain ⟨v5, e, h⟩ := bd h
  refine s_aldI (pc := 18) O e dX7_adds_18 ?_
  refine s_iadd (pc := 19) O dX7_adds_19 ?_
  obtain ⟨M6, e, h⟩ := bd h
  refine s_astI (pc := 20) O e dX7_adds_20 ?_
  have hn : M6.1 ≤ lim := by rw [waI_n e]; exact hn
  refine s_aload_n (pc := 21) O dX7_adds_21 rfl 0 rfl ?_
  obtain ⟨v7, e, h⟩ := bd h
  refine s_getR (pc := 22) O kc7 (k := 11) rfl tw_682 e dX7_adds_22 ?_
  refine s_aload_n (pc := 25) O dX7_adds_25 rfl 0 rfl ?_
  obtain ⟨v8, e, h⟩ := bd h
  refine s_getI (pc := 26) O kc7 (k := 12) rfl tw_683 e dX7_adds_26 ?_
  refine s_dup2 (pc := 29) O dX7_adds_29 rfl rfl ?_
  obtain ⟨v9, e, h⟩ := bd h
  refine s_aldI (pc := 30) O e dX7_adds_30 ?_
  refine s_aload_n (pc := 31) O dX7_adds_31 rfl 0 rfl ?_
  obtain ⟨v10, e, h⟩ := bd h
  refine s_getR (pc := 32) O kc7 (k := 3) rfl tw_674 e dX7_adds_32 ?_
  refine s_bipush (pc := 35) O (v := 21) dX7_adds_35 (by decide) ?_
  refine s_iload_n (pc := 37) O dX7_adds_37 rfl 1 rfl ?_
  refine s_iadd (pc := 38) O dX7_adds_38 ?_
  obtain ⟨v11, e, h⟩ := bd h
  refine s_aldI (pc := 39) O e dX7_adds_39 ?_
  refine s_iadd (pc := 40) O dX7_adds_40 ?_
  obtain ⟨M12, e, h⟩ := bd h
  refine s_astI (pc := 41) O e dX7_adds_41 ?_
  have hn : M12.1 ≤ lim := by rw [waI_n e]; exact hn
  refine s_iconst (pc := 42) O (v := 0) dX7_adds_42 (by decide) ?_
  refine s_istore_n (pc := 43) O (loc' := [(2, .int 0), (0, rf X.1 p0), (1, .int a1)]) dX7_adds_43 rfl (by decide) rfl ?_
  exact s_sub (pc := 44) O [1, 2, 0] rfl (l_X7_adds_44 O hi hn h hK)

def f_X7_byteAt (M : MM) (p0 : Nat) (a1 : Int32) : Option (Int32) :=
  if p0 < M.1 ∧ kd p0 = 7 then ((fI M p0 7 2).bind fun v1 => if v1 ≤ a1 then (some ((-1))) else ((fR M p0 7 1).bind fun v2 => (aI M v2 a1).bind fun v3 => some v3)) else none
theorem r_X7_byteAt {M : MM} {p0 : Nat} {a1 : Int32} {o : Int32} (h : f_X7_byteAt M p0 a1 = some o) : p0 < M.1 ∧ kd p0 = 7 := by
  unfold f_X7_byteAt at h
  exact (gd h).1
theorem cy_X7_byteAt : CallY yX7_byteAt cX7_byteAt 2 (some .int) 1 := ⟨by decide +kernel, tw_750, tw_47, by decide⟩
set_option maxHeartbeats 4000000 in
set_option maxRecDepth 100000 in
theorem c_X7_byteAt {G : GG} {M : MM} {p0 : Nat} {a1 : Int32} {r : Int32} (h : f_X7_byteAt M p0 a1 = some r) : Ct G yX7_byteAt cX7_byteAt 2 (some .int) 0 [rf G p0, .int a1] M (some (.int r)) M := by
  refine ct_of (by decide +kernel) (Nat.le_of_ble_eq_true rfl) (fun X hX O hK hi0 => ?_)
  subst hX
  obtain ⟨lim, hlim⟩ : ∃ z, z = M.1 := ⟨_, rfl⟩
  rw [← hlim] at O
  replace O : OKX X cX7_byteAt RX7 0 lim 2 := O
  have hi : True := trivial
  have hn : M.1 ≤ lim := Nat.le_of_eq hlim.symm
  show WS X M 0 [(0, rf X.1 p0), (1, .int a1)] []
  unfold f_X7_byteAt at h
  obtain ⟨hg0, h⟩ := gd h
  refine s_iload_n (pc := 0) O dX7_byteAt_0 rfl 1 rfl ?_
  refine s_aload_n (pc := 1) O dX7_byteAt_1 rfl 0 rfl ?_
  obtain ⟨v1, e, h⟩ := bd h
  refine s_getI (pc := 2) O kc7 (k := 2) rfl tw_673 e dX7_byteAt_2 ?_
  refine s_icmp_ge (pc := 5) O (tgt := 17) dX7_byteAt_5 (by decide) (fun c => ?_) (fun c => ?_)
  · have h := ifp c h
    refine s_iconst (pc := 17) O (v := (-1)) dX7_byteAt_17 (by decide) ?_
    cases h
    exact s_iret (pc := 18) O hK dX7_byteAt_18
  · have h := ifn c h
    refine s_aload_n (pc := 8) O dX7_byteAt_8 rfl 0 rfl ?_
    obtain ⟨v2, e, h⟩ := bd h
    refine s_getR (pc := 9) O kc7 (k := 1) rfl tw_672 e dX7_byteAt_9 ?_
    refine s_iload_n (pc := 12) O dX7_byteAt_12 rfl 1 rfl ?_
    obtain ⟨v3, e, h⟩ := bd h
    refine s_aldI (pc := 13) O e dX7_byteAt_13 ?_
    refine s_goto (pc := 14) O (tgt := 18) dX7_byteAt_14 (by decide) ?_
    cases h
    exact s_iret (pc := 18) O hK dX7_byteAt_18

def f_X7_clear (M : MM) (p0 : Nat) : Option (Int32 × MM) :=
  if p0 < M.1 ∧ kd p0 = 7 then ((fI M p0 7 2).bind fun v1 => (wfI M p0 7 2 0).bind fun M2 => some ((v1, M2))) else none
theorem r_X7_clear {M : MM} {p0 : Nat} {o : Int32 × MM} (h : f_X7_clear M p0 = some o) : p0 < M.1 ∧ kd p0 = 7 := by
  unfold f_X7_clear at h
  exact (gd h).1
theorem cy_X7_clear : CallY yX7_clear cX7_clear 2 (some .int) 0 := ⟨by decide +kernel, tw_734, tw_47, by decide⟩
set_option maxHeartbeats 4000000 in
set_option maxRecDepth 100000 in
theorem c_X7_clear {G : GG} {M : MM} {p0 : Nat} {r : Int32} {M' : MM} (h : f_X7_clear M p0 = some (r, M')) (hn : M.1 ≤ M'.1) : Ct G yX7_clear cX7_clear 2 (some .int) 0 [rf G p0] M (some (.int r)) M' := by
  refine ct_of (by decide +kernel) (Nat.le_of_ble_eq_true rfl) (fun X hX O hK hi0 => ?_)
  subst hX
  obtain ⟨lim, hlim⟩ : ∃ z, z = M'.1 := ⟨_, rfl⟩
  rw [← hlim] at O hn
  replace O : OKX X cX7_clear RX7 0 lim 2 := O
  have hi : True := trivial
  show WS X M 0 [(0, rf X.1 p0)] []
  replace hK : (fun (q : Int32 × MM) => RTX X (some .int) (some (.int q.1)) q.2) (r, M') := hK
  generalize (r, M') = o at h hK
  unfold f_X7_clear at h
  obtain ⟨hg0, h⟩ := gd h
  refine s_aload_n (pc := 0) O dX7_clear_0 rfl 0 rfl ?_
  obtain ⟨v1, e, h⟩ := bd h
  refine s_getI (pc := 1) O kc7 (k := 2) rfl tw_673 e dX7_clear_1 ?_
  refine s_istore_n (pc := 4) O (loc' := [(1, .int v1), (0, rf X.1 p0)]) dX7_clear_4 rfl (by decide) rfl ?_
  refine s_aload_n (pc := 5) O dX7_clear_5 rfl 1 rfl ?_
  refine s_iconst (pc := 6) O (v := 0) dX7_clear_6 (by decide) ?_
  obtain ⟨M2, e, h⟩ := bd h
  refine s_putI (pc := 7) O kc7 (k := 2) rfl rfl rfl tw_673 e dX7_clear_7 ?_
  have hn : M2.1 ≤ lim := by rw [wfI_n e]; exact hn
  refine s_iload_n (pc := 10) O dX7_clear_10 rfl 0 rfl ?_
  cases h
  exact s_iret (pc := 11) O hK dX7_clear_11

def f_X7_countOf (M : MM) (a0 : Int32) (a1 : Int32) : Option (Int32) :=
  some (((a0 >>> ((4 * a1) &&& 31)) &&& 15))
theorem cy_X7_countOf : CallY yX7_countOf cX7_countOf 2 (some .int) 2 := ⟨by decide +kernel, tw_807, tw_47, by decide⟩
set_option maxHeartbeats 4000000 in
set_option maxRecDepth 100000 in
theorem c_X7_countOf {G : GG} {M : MM} {a0 : Int32} {a1 : Int32} {r : Int32} (h : f_X7_countOf M a0 a1 = some r) : Ct G yX7_countOf cX7_countOf 2 (some .int) 0 [.int a0, .int a1] M (some (.int r)) M := by
  refine ct_of (by decide +kernel) (Nat.le_of_ble_eq_true rfl) (fun X hX O hK hi0 => ?_)
  subst hX
  obtain ⟨lim, hlim⟩ : ∃ z, z = M.1 := ⟨_, rfl⟩
  rw [← hlim] at O
  replace O : OKX X cX7_countOf RX7 0 lim 2 := O
  have hi : True := trivial
  have hn : M.1 ≤ lim := Nat.le_of_eq hlim.symm
  show WS X M 0 [(0, .int a0), (1, .int a1)] []
  unfold f_X7_countOf at h
  refine s_iload_n (pc := 0) O dX7_countOf_0 rfl 0 rfl ?_
  refine s_iconst (pc := 1) O (v := 4) dX7_countOf_1 (by decide) ?_
  refine s_iload_n (pc := 2) O dX7_countOf_2 rfl 1 rfl ?_
  refine s_imul (pc := 3) O dX7_countOf_3 ?_
  refine s_ishr (pc := 4) O dX7_countOf_4 ?_
  refine s_bipush (pc := 5) O (v := 15) dX7_countOf_5 (by decide) ?_
  refine s_iand (pc := 7) O dX7_countOf_7 ?_
  cases h
  exact s_iret (pc := 8) O hK dX7_countOf_8

def f_X7_in (M : MM) (a0 : Int32) (a1 : Int32) (a2 : Int32) : Option (Int32) :=
  if a0 < a1 then (some 0) else (if a2 < a0 then (some 0) else (some 1))
theorem cy_X7_in : CallY yX7_in cX7_in 3 (some .boolean) 3 := ⟨by decide +kernel, tw_662, tw_47, by decide⟩
set_option maxHeartbeats 4000000 in
set_option maxRecDepth 100000 in
theorem c_X7_in {G : GG} {M : MM} {a0 : Int32} {a1 : Int32} {a2 : Int32} {r : Int32} (h : f_X7_in M a0 a1 a2 = some r) : Ct G yX7_in cX7_in 3 (some .boolean) 0 [.int a0, .int a1, .int a2] M (some (.int r)) M := by
  refine ct_of (by decide +kernel) (Nat.le_of_ble_eq_true rfl) (fun X hX O hK hi0 => ?_)
  subst hX
  obtain ⟨lim, hlim⟩ : ∃ z, z = M.1 := ⟨_, rfl⟩
  rw [← hlim] at O
  replace O : OKX X cX7_in RX7 0 lim 3 := O
  have hi : True := trivial
  have hn : M.1 ≤ lim := Nat.le_of_eq hlim.symm
  show WS X M 0 [(0, .int a0), (1, .int a1), (2, .int a2)] []
  unfold f_X7_in at h
  refine s_iload_n (pc := 0) O dX7_in_0 rfl 0 rfl ?_
  refine s_iload_n (pc := 1) O dX7_in_1 rfl 1 rfl ?_
  refine s_icmp_lt (pc := 2) O (tgt := 14) dX7_in_2 (by decide) (fun c => ?_) (fun c => ?_)
  · have h := ifp c h
    refine s_iconst (pc := 14) O (v := 0) dX7_in_14 (by decide) ?_
    cases h
    exact s_zret (pc := 15) O (by decide) hK dX7_in_15
  · have h := ifn c h
    refine s_iload_n (pc := 5) O dX7_in_5 rfl 0 rfl ?_
    refine s_iload_n (pc := 6) O dX7_in_6 rfl 2 rfl ?_
    refine s_icmp_gt (pc := 7) O (tgt := 14) dX7_in_7 (by decide) (fun c => ?_) (fun c => ?_)
    · have h := ifp c h
      refine s_iconst (pc := 14) O (v := 0) dX7_in_14 (by decide) ?_
      cases h
      exact s_zret (pc := 15) O (by decide) hK dX7_in_15
    · have h := ifn c h
      refine s_iconst (pc := 10) O (v := 1) dX7_in_10 (by decide) ?_
      refine s_goto (pc := 11) O (tgt := 15) dX7_in_11 (by decide) ?_
      cases h
      exact s_zret (pc := 15) O (by decide) hK dX7_in_15

def f_X7_length (M : MM) (a0 : Int32) : Option (Int32) :=
  if (10 : Int32) ≤ a0 then (if (100 : Int32) ≤ a0 then (some 3) else (some 2)) else (some 1)
theorem cy_X7_length : CallY yX7_length cX7_length 1 (some .int) 1 := ⟨by decide +kernel, tw_652, tw_47, by decide⟩
set_option maxHeartbeats 4000000 in
set_option maxRecDepth 100000 in
theorem c_X7_length {G : GG} {M : MM} {a0 : Int32} {r : Int32} (h : f_X7_length M a0 = some r) : Ct G yX7_length cX7_length 1 (some .int) 0 [.int a0] M (some (.int r)) M := by
  refine ct_of (by decide +kernel) (Nat.le_of_ble_eq_true rfl) (fun X hX O hK hi0 => ?_)
  subst hX
  obtain ⟨lim, hlim⟩ : ∃ z, z = M.1 := ⟨_, rfl⟩
  rw [← hlim] at O
  replace O : OKX X cX7_length RX7 0 lim 1 := O
  have hi : True := trivial
  have hn : M.1 ≤ lim := Nat.le_of_eq hlim.symm
  show WS X M 0 [(0, .int a0)] []
  unfold f_X7_length at h
  refine s_iload_n (pc := 0) O dX7_length_0 rfl 0 rfl ?_
  refine s_bipush (pc := 1) O (v := 10) dX7_length_1 (by decide) ?_
  refine s_icmp_ge (pc := 3) O (tgt := 10) dX7_length_3 (by decide) (fun c => ?_) (fun c => ?_)
  · have h := ifp c h
    refine s_iload_n (pc := 10) O dX7_length_10 rfl 0 rfl ?_
    refine s_bipush (pc := 11) O (v := 100) dX7_length_11 (by decide) ?_
    refine s_icmp_ge (pc := 13) O (tgt := 20) dX7_length_13 (by decide) (fun c => ?_) (fun c => ?_)
    · have h := ifp c h
      refine s_iconst (pc := 20) O (v := 3) dX7_length_20 (by decide) ?_
      cases h
      exact s_iret (pc := 21) O hK dX7_length_21
    · have h := ifn c h
      refine s_iconst (pc := 16) O (v := 2) dX7_length_16 (by decide) ?_
      refine s_goto (pc := 17) O (tgt := 21) dX7_length_17 (by decide) ?_
      cases h
      exact s_iret (pc := 21) O hK dX7_length_21
  · have h := ifn c h
    refine s_iconst (pc := 6) O (v := 1) dX7_length_6 (by decide) ?_
    refine s_goto (pc := 7) O (tgt := 21) dX7_length_7 (by decide) ?_
    cases h
    exact s_iret (pc := 21) O hK dX7_length_21

def z_X7_ones_4 (M : MM) (a0 : Int32) (a1 : Int32) (a2 : Int32) : Option ((Int32) ⊕ (Int32 × Int32)) :=
  if (8 : Int32) ≤ a2 then (some ((.inl a1))) else (some ((.inr ((a1 + ((a0 >>> (a2 &&& 31)) &&& 1)), (a2 + 1)))))
set_option maxHeartbeats 4000000 in
set_option maxRecDepth 100000 in
theorem b_X7_ones_4 {X : CT} {lim : Nat} {M : MM} {a0 : Int32} {a1 : Int32} {a2 : Int32} (O : OKX X cX7_ones RX7 0 lim 3) (hi : True) (hn : M.1 ≤ lim) {o : (Int32) ⊕ (Int32 × Int32)} (h : z_X7_ones_4 M a0 a1 a2 = some o) (hK : (KI (fun (q : Int32) => RTX X (some .int) (some (.int q)) M) (fun (t : Int32 × Int32) => WS X M 4 [(0, .int a0), (1, .int t.1), (2, .int t.2)] [])) o) : WS X M 4 [(0, .int a0), (1, .int a1), (2, .int a2)] [] := by
  unfold z_X7_ones_4 at h
  refine s_iload_n (pc := 4) O dX7_ones_4 rfl 2 rfl ?_
  refine s_bipush (pc := 5) O (v := 8) dX7_ones_5 (by decide) ?_
  refine s_icmp_ge (pc := 7) O (tgt := 24) dX7_ones_7 (by decide) (fun c => ?_) (fun c => ?_)
  · have h := ifp c h
    refine s_iload_n (pc := 24) O dX7_ones_24 rfl 1 rfl ?_
    cases h
    exact s_iret (pc := 25) O hK dX7_ones_25
  · have h := ifn c h
    refine s_iload_n (pc := 10) O dX7_ones_10 rfl 1 rfl ?_
    refine s_iload_n (pc := 11) O dX7_ones_11 rfl 0 rfl ?_
    refine s_iload_n (pc := 12) O dX7_ones_12 rfl 2 rfl ?_
    refine s_ishr (pc := 13) O dX7_ones_13 ?_
    refine s_iconst (pc := 14) O (v := 1) dX7_ones_14 (by decide) ?_
    refine s_iand (pc := 15) O dX7_ones_15 ?_
    refine s_iadd (pc := 16) O dX7_ones_16 ?_
    refine s_istore_n (pc := 17) O (loc' := [(1, .int (a1 + ((a0 >>> (a2 &&& 31)) &&& 1))), (0, .int a0), (2, .int a2)]) dX7_ones_17 rfl (by decide) rfl ?_
    refine s_iinc (pc := 18) O (v := (a2 + 1)) (loc' := [(2, .int (a2 + 1)), (1, .int (a1 + ((a0 >>> (a2 &&& 31)) &&& 1))), (0, .int a0)]) dX7_ones_18 2 rfl rfl (by decide) rfl ?_
    refine s_goto (pc := 21) O (tgt := 4) dX7_ones_21 (by decide) ?_
    cases h
    exact s_sub (pc := 4) O [2, 1, 0] rfl hK
set_option maxHeartbeats 4000000 in
set_option maxRecDepth 100000 in
theorem l_X7_ones_4 {X : CT} {lim : Nat} {M : MM} {a0 : Int32} {a1 : Int32} {a2 : Int32} (O : OKX X cX7_ones RX7 0 lim 3) (hi : True) (hn : M.1 ≤ lim) {o : Int32} {n : Nat} (h : lp (fun t => z_X7_ones_4 M a0 t.1 t.2) n (a1, a2) = some o) (hK : (fun (q : Int32) => RTX X (some .int) (some (.int q)) M) o) : WS X M 4 [(0, .int a0), (1, .int a1), (2, .int a2)] [] := by
  refine lp_ind (P := fun (o : Int32) (t : Int32 × Int32) => (fun (q : Int32) => RTX X (some .int) (some (.int q)) M) o → WS X M 4 [(0, .int a0), (1, .int t.1), (2, .int t.2)] []) (fun t o hs  hK => ?_) n (a1, a2) o h  hK
  rcases hs with h | ⟨u, h, hu⟩
  · exact b_X7_ones_4 O hi hn h hK
  · exact b_X7_ones_4 O hi hn h (show KI _ _ (.inr u) from hu hK)
def f_X7_ones (M : MM) (a0 : Int32) : Option (Int32) :=
  lp (fun t => z_X7_ones_4 M a0 t.1 t.2) FU (0, 0)
theorem cy_X7_ones : CallY yX7_ones cX7_ones 3 (some .int) 1 := ⟨by decide +kernel, tw_877, tw_47, by decide⟩
set_option maxHeartbeats 4000000 in
set_option maxRecDepth 100000 in
theorem c_X7_ones {G : GG} {M : MM} {a0 : Int32} {r : Int32} (h : f_X7_ones M a0 = some r) : Ct G yX7_ones cX7_ones 3 (some .int) 0 [.int a0] M (some (.int r)) M := by
  refine ct_of (by decide +kernel) (Nat.le_of_ble_eq_true rfl) (fun X hX O hK hi0 => ?_)
  subst hX
  obtain ⟨lim, hlim⟩ : ∃ z, z = M.1 := ⟨_, rfl⟩
  rw [← hlim] at O
  replace O : OKX X cX7_ones RX7 0 lim 3 := O
  have hi : True := trivial
  have hn : M.1 ≤ lim := Nat.le_of_eq hlim.symm
  show WS X M 0 [(0, .int a0)] []
  unfold f_X7_ones at h
  refine s_iconst (pc := 0) O (v := 0) dX7_ones_0 (by decide) ?_
  refine s_istore_n (pc := 1) O (loc' := [(1, .int 0), (0, .int a0)]) dX7_ones_1 rfl (by decide) rfl ?_
  refine s_iconst (pc := 2) O (v := 0) dX7_ones_2 (by decide) ?_
  refine s_istore_n (pc := 3) O (loc' := [(2, .int 0), (1, .int 0), (0, .int a0)]) dX7_ones_3 rfl (by decide) rfl ?_
  exact s_sub (pc := 4) O [2, 1, 0] rfl (l_X7_ones_4 O hi hn h hK)

def j_X7_placeOf_28 (M : MM) (p0 : Nat) (a1 : Int32) (a3 : Int32) (s0 : Int32) : Option ((Int32) ⊕ (Int32 × Int32)) :=
  some ((.inr (s0, (a3 + 1))))
set_option maxHeartbeats 4000000 in
set_option maxRecDepth 100000 in
theorem g_X7_placeOf_28 {X : CT} {lim : Nat} {M : MM} {p0 : Nat} {a1 : Int32} {a3 : Int32} {s0 : Int32} (O : OKX X cX7_placeOf RX7 0 lim 4) (hi : True) (hn : M.1 ≤ lim) {o : (Int32) ⊕ (Int32 × Int32)} (h : j_X7_placeOf_28 M p0 a1 a3 s0 = some o) (hK : (KI (fun (q : Int32) => RTX X (some .int) (some (.int q)) M) (fun (t : Int32 × Int32) => WS X M 5 [(0, rf X.1 p0), (1, .int a1), (2, .int t.1), (3, .int t.2)] [])) o) : WS X M 28 [(0, rf X.1 p0), (1, .int a1), (3, .int a3)] [.int s0] := by
  unfold j_X7_placeOf_28 at h
  refine s_istore_n (pc := 28) O (loc' := [(2, .int s0), (0, rf X.1 p0), (1, .int a1), (3, .int a3)]) dX7_placeOf_28 rfl (by decide) rfl ?_
  refine s_iinc (pc := 29) O (v := (a3 + 1)) (loc' := [(3, .int (a3 + 1)), (2, .int s0), (0, rf X.1 p0), (1, .int a1)]) dX7_placeOf_29 3 rfl rfl (by decide) rfl ?_
  refine s_goto (pc := 32) O (tgt := 5) dX7_placeOf_32 (by decide) ?_
  cases h
  exact s_sub (pc := 5) O [2, 3, 1, 0] rfl hK
def z_X7_placeOf_5 (M : MM) (p0 : Nat) (a1 : Int32) (a2 : Int32) (a3 : Int32) : Option ((Int32) ⊕ (Int32 × Int32)) :=
  (fI M p0 7 12).bind fun v1 => if v1 ≤ a3 then (some ((.inl a2))) else ((fR M p0 7 8).bind fun v2 => (aI M v2 a3).bind fun v3 => if v3 = a1 then (j_X7_placeOf_28 M p0 a1 a3 a3) else (j_X7_placeOf_28 M p0 a1 a3 a2))
set_option maxHeartbeats 4000000 in
set_option maxRecDepth 100000 in
theorem b_X7_placeOf_5 {X : CT} {lim : Nat} {M : MM} {p0 : Nat} {a1 : Int32} {a2 : Int32} {a3 : Int32} (O : OKX X cX7_placeOf RX7 0 lim 4) (hi : True) (hn : M.1 ≤ lim) {o : (Int32) ⊕ (Int32 × Int32)} (h : z_X7_placeOf_5 M p0 a1 a2 a3 = some o) (hK : (KI (fun (q : Int32) => RTX X (some .int) (some (.int q)) M) (fun (t : Int32 × Int32) => WS X M 5 [(0, rf X.1 p0), (1, .int a1), (2, .int t.1), (3, .int t.2)] [])) o) : WS X M 5 [(0, rf X.1 p0), (1, .int a1), (2, .int a2), (3, .int a3)] [] := by
  unfold z_X7_placeOf_5 at h
  refine s_iload_n (pc := 5) O dX7_placeOf_5 rfl 3 rfl ?_
  refine s_aload_n (pc := 6) O dX7_placeOf_6 rfl 0 rfl ?_
  obtain ⟨v1, e, h⟩ := bd h
  refine s_getI (pc := 7) O kc7 (k := 12) rfl tw_683 e dX7_placeOf_7 ?_
  refine s_icmp_ge (pc := 10) O (tgt := 35) dX7_placeOf_10 (by decide) (fun c => ?_) (fun c => ?_)
  · have h := ifp c h
    refine s_iload_n (pc := 35) O dX7_placeOf_35 rfl 2 rfl ?_
    cases h
    exact s_iret (pc := 36) O hK dX7_placeOf_36
  · have h := ifn c h
    refine s_aload_n (pc := 13) O dX7_placeOf_13 rfl 0 rfl ?_
    obtain ⟨v2, e, h⟩ := bd h
    refine s_getR (pc := 14) O kc7 (k := 8) rfl tw_679 e dX7_placeOf_14 ?_
    refine s_iload_n (pc := 17) O dX7_placeOf_17 rfl 3 rfl ?_
    obtain ⟨v3, e, h⟩ := bd h
    refine s_aldI (pc := 18) O e dX7_placeOf_18 ?_
    refine s_iload_n (pc := 19) O dX7_placeOf_19 rfl 1 rfl ?_
    refine s_icmp_ne (pc := 20) O (tgt := 27) dX7_placeOf_20 (by decide) (fun c => ?_) (fun c => ?_)
    · have h := ifn c h
      refine s_iload_n (pc := 27) O dX7_placeOf_27 rfl 2 rfl ?_
      exact s_sub (pc := 28) O [0, 1, 3] rfl (g_X7_placeOf_28 O hi hn h hK)
    · have h := ifp c h
      refine s_iload_n (pc := 23) O dX7_placeOf_23 rfl 3 rfl ?_
      refine s_goto (pc := 24) O (tgt := 28) dX7_placeOf_24 (by decide) ?_
      exact s_sub (pc := 28) O [0, 1, 3] rfl (g_X7_placeOf_28 O hi hn h hK)
set_option maxHeartbeats 4000000 in
set_option maxRecDepth 100000 in
theorem l_X7_placeOf_5 {X : CT} {lim : Nat} {M : MM} {p0 : Nat} {a1 : Int32} {a2 : Int32} {a3 : Int32} (O : OKX X cX7_placeOf RX7 0 lim 4) (hi : True) (hn : M.1 ≤ lim) {o : Int32} {n : Nat} (h : lp (fun t => z_X7_placeOf_5 M p0 a1 t.1 t.2) n (a2, a3) = some o) (hK : (fun (q : Int32) => RTX X (some .int) (some (.int q)) M) o) : WS X M 5 [(0, rf X.1 p0), (1, .int a1), (2, .int a2), (3, .int a3)] [] := by
  refine lp_ind (P := fun (o : Int32) (t : Int32 × Int32) => (fun (q : Int32) => RTX X (some .int) (some (.int q)) M) o → WS X M 5 [(0, rf X.1 p0), (1, .int a1), (2, .int t.1), (3, .int t.2)] []) (fun t o hs  hK => ?_) n (a2, a3) o h  hK
  rcases hs with h | ⟨u, h, hu⟩
  · exact b_X7_placeOf_5 O hi hn h hK
  · exact b_X7_placeOf_5 O hi hn h (show KI _ _ (.inr u) from hu hK)
def f_X7_placeOf (M : MM) (p0 : Nat) (a1 : Int32) : Option (Int32) :=
  if p0 < M.1 ∧ kd p0 = 7 then (lp (fun t => z_X7_placeOf_5 M p0 a1 t.1 t.2) FU ((-9), 0)) else none
theorem r_X7_placeOf {M : MM} {p0 : Nat} {a1 : Int32} {o : Int32} (h : f_X7_placeOf M p0 a1 = some o) : p0 < M.1 ∧ kd p0 = 7 := by
  unfold f_X7_placeOf at h
  exact (gd h).1
theorem cy_X7_placeOf : CallY yX7_placeOf cX7_placeOf 4 (some .int) 1 := ⟨by decide +kernel, tw_804, tw_47, by decide⟩
set_option maxHeartbeats 4000000 in
set_option maxRecDepth 100000 in
theorem c_X7_placeOf {G : GG} {M : MM} {p0 : Nat} {a1 : Int32} {r : Int32} (h : f_X7_placeOf M p0 a1 = some r) : Ct G yX7_placeOf cX7_placeOf 4 (some .int) 0 [rf G p0, .int a1] M (some (.int r)) M := by
  refine ct_of (by decide +kernel) (Nat.le_of_ble_eq_true rfl) (fun X hX O hK hi0 => ?_)
  subst hX
  obtain ⟨lim, hlim⟩ : ∃ z, z = M.1 := ⟨_, rfl⟩
  rw [← hlim] at O
  replace O : OKX X cX7_placeOf RX7 0 lim 4 := O
  have hi : True := trivial
  have hn : M.1 ≤ lim := Nat.le_of_eq hlim.symm
  show WS X M 0 [(0, rf X.1 p0), (1, .int a1)] []
  unfold f_X7_placeOf at h
  obtain ⟨hg0, h⟩ := gd h
  refine s_bipush (pc := 0) O (v := (-9)) dX7_placeOf_0 (by decide) ?_
  refine s_istore_n (pc := 2) O (loc' := [(2, .int (-9)), (0, rf X.1 p0), (1, .int a1)]) dX7_placeOf_2 rfl (by decide) rfl ?_
  refine s_iconst (pc := 3) O (v := 0) dX7_placeOf_3 (by decide) ?_
  refine s_istore_n (pc := 4) O (loc' := [(3, .int 0), (2, .int (-9)), (0, rf X.1 p0), (1, .int a1)]) dX7_placeOf_4 rfl (by decide) rfl ?_
  exact s_sub (pc := 5) O [2, 3, 1, 0] rfl (l_X7_placeOf_5 O hi hn h hK)

def j_X7_says_51 (M : MM) (p0 : Nat) (a1 : Int32) (a3 : Int32) (s0 : Int32) : Option ((Int32) ⊕ (Int32 × Int32)) :=
  some ((.inr (s0, (a3 + 1))))
set_option maxHeartbeats 4000000 in
set_option maxRecDepth 100000 in
theorem g_X7_says_51 {X : CT} {lim : Nat} {M : MM} {p0 : Nat} {a1 : Int32} {a3 : Int32} {s0 : Int32} (O : OKX X cX7_says RX7 0 lim 4) (hi : True) (hn : M.1 ≤ lim) {o : (Int32) ⊕ (Int32 × Int32)} (h : j_X7_says_51 M p0 a1 a3 s0 = some o) (hK : (KI (fun (q : Int32) => RTX X (some .int) (some (.int q)) M) (fun (t : Int32 × Int32) => WS X M 23 [(0, rf X.1 p0), (1, .int a1), (2, .int t.1), (3, .int t.2)] [])) o) : WS X M 51 [(0, rf X.1 p0), (1, .int a1), (3, .int a3)] [.int s0] := by
  unfold j_X7_says_51 at h
  refine s_istore_n (pc := 51) O (loc' := [(2, .int s0), (0, rf X.1 p0), (1, .int a1), (3, .int a3)]) dX7_says_51 rfl (by decide) rfl ?_
  refine s_iinc (pc := 52) O (v := (a3 + 1)) (loc' := [(3, .int (a3 + 1)), (2, .int s0), (0, rf X.1 p0), (1, .int a1)]) dX7_says_52 3 rfl rfl (by decide) rfl ?_
  refine s_goto (pc := 55) O (tgt := 23) dX7_says_55 (by decide) ?_
  cases h
  exact s_sub (pc := 23) O [2, 3, 1, 0] rfl hK
def z_X7_says_23 (M : MM) (p0 : Nat) (a1 : Int32) (a2 : Int32) (a3 : Int32) : Option ((Int32) ⊕ (Int32 × Int32)) :=
  (fI M p0 7 12).bind fun v1 => if v1 ≤ a3 then ((if a1 = (-2) then (some a2) else ((fI M p0 7 12).bind fun v2 => if v2 ≤ a1 then (some ((-5))) else ((fR M p0 7 8).bind fun v3 => (aI M v3 a1).bind fun v4 => some v4))).map .inl) else ((fR M p0 7 10).bind fun v5 => (aI M v5 a3).bind fun v6 => if v6 ≤ a2 then (j_X7_says_51 M p0 a1 a3 a2) else ((fR M p0 7 10).bind fun v7 => (aI M v7 a3).bind fun v8 => j_X7_says_51 M p0 a1 a3 v8))
set_option maxHeartbeats 4000000 in
set_option maxRecDepth 100000 in
theorem b_X7_says_23 {X : CT} {lim : Nat} {M : MM} {p0 : Nat} {a1 : Int32} {a2 : Int32} {a3 : Int32} (O : OKX X cX7_says RX7 0 lim 4) (hi : True) (hn : M.1 ≤ lim) {o : (Int32) ⊕ (Int32 × Int32)} (h : z_X7_says_23 M p0 a1 a2 a3 = some o) (hK : (KI (fun (q : Int32) => RTX X (some .int) (some (.int q)) M) (fun (t : Int32 × Int32) => WS X M 23 [(0, rf X.1 p0), (1, .int a1), (2, .int t.1), (3, .int t.2)] [])) o) : WS X M 23 [(0, rf X.1 p0), (1, .int a1), (2, .int a2), (3, .int a3)] [] := by
  unfold z_X7_says_23 at h
  refine s_iload_n (pc := 23) O dX7_says_23 rfl 3 rfl ?_
  refine s_aload_n (pc := 24) O dX7_says_24 rfl 0 rfl ?_
  obtain ⟨v1, e, h⟩ := bd h
  refine s_getI (pc := 25) O kc7 (k := 12) rfl tw_683 e dX7_says_25 ?_
  refine s_icmp_ge (pc := 28) O (tgt := 58) dX7_says_28 (by decide) (fun c => ?_) (fun c => ?_)
  · have h := ifp c h
    obtain ⟨q0, hq0, ho0⟩ := mpi h; subst ho0; replace h := hq0
    refine s_iload_n (pc := 58) O dX7_says_58 rfl 1 rfl ?_
    refine s_bipush (pc := 59) O (v := (-2)) dX7_says_59 (by decide) ?_
    refine s_icmp_ne (pc := 61) O (tgt := 68) dX7_says_61 (by decide) (fun c => ?_) (fun c => ?_)
    · have h := ifn c h
      refine s_iload_n (pc := 68) O dX7_says_68 rfl 1 rfl ?_
      refine s_aload_n (pc := 69) O dX7_says_69 rfl 0 rfl ?_
      obtain ⟨v2, e, h⟩ := bd h
      refine s_getI (pc := 70) O kc7 (k := 12) rfl tw_683 e dX7_says_70 ?_
      refine s_icmp_ge (pc := 73) O (tgt := 85) dX7_says_73 (by decide) (fun c => ?_) (fun c => ?_)
      · have h := ifp c h
        refine s_bipush (pc := 85) O (v := (-5)) dX7_says_85 (by decide) ?_
        cases h
        exact s_iret (pc := 87) O hK dX7_says_87
      · have h := ifn c h
        refine s_aload_n (pc := 76) O dX7_says_76 rfl 0 rfl ?_
        obtain ⟨v3, e, h⟩ := bd h
        refine s_getR (pc := 77) O kc7 (k := 8) rfl tw_679 e dX7_says_77 ?_
        refine s_iload_n (pc := 80) O dX7_says_80 rfl 1 rfl ?_
        obtain ⟨v4, e, h⟩ := bd h
        refine s_aldI (pc := 81) O e dX7_says_81 ?_
        refine s_goto (pc := 82) O (tgt := 87) dX7_says_82 (by decide) ?_
        cases h
        exact s_iret (pc := 87) O hK dX7_says_87
    · have h := ifp c h
      refine s_iload_n (pc := 64) O dX7_says_64 rfl 2 rfl ?_
      refine s_goto (pc := 65) O (tgt := 87) dX7_says_65 (by decide) ?_
      cases h
      exact s_iret (pc := 87) O hK dX7_says_87
  · have h := ifn c h
    refine s_aload_n (pc := 31) O dX7_says_31 rfl 0 rfl ?_
    obtain ⟨v5, e, h⟩ := bd h
    refine s_getR (pc := 32) O kc7 (k := 10) rfl tw_681 e dX7_says_32 ?_
    refine s_iload_n (pc := 35) O dX7_says_35 rfl 3 rfl ?_
    obtain ⟨v6, e, h⟩ := bd h
    refine s_aldI (pc := 36) O e dX7_says_36 ?_
    refine s_iload_n (pc := 37) O dX7_says_37 rfl 2 rfl ?_
    refine s_icmp_le (pc := 38) O (tgt := 50) dX7_says_38 (by decide) (fun c => ?_) (fun c => ?_)
    · have h := ifp c h
      refine s_iload_n (pc := 50) O dX7_says_50 rfl 2 rfl ?_
      exact s_sub (pc := 51) O [0, 1, 3] rfl (g_X7_says_51 O hi hn h hK)
    · have h := ifn c h
      refine s_aload_n (pc := 41) O dX7_says_41 rfl 0 rfl ?_
      obtain ⟨v7, e, h⟩ := bd h
      refine s_getR (pc := 42) O kc7 (k := 10) rfl tw_681 e dX7_says_42 ?_
      refine s_iload_n (pc := 45) O dX7_says_45 rfl 3 rfl ?_
      obtain ⟨v8, e, h⟩ := bd h
      refine s_aldI (pc := 46) O e dX7_says_46 ?_
      refine s_goto (pc := 47) O (tgt := 51) dX7_says_47 (by decide) ?_
      exact s_sub (pc := 51) O [0, 1, 3] rfl (g_X7_says_51 O hi hn h hK)
set_option maxHeartbeats 4000000 in
set_option maxRecDepth 100000 in
theorem l_X7_says_23 {X : CT} {lim : Nat} {M : MM} {p0 : Nat} {a1 : Int32} {a2 : Int32} {a3 : Int32} (O : OKX X cX7_says RX7 0 lim 4) (hi : True) (hn : M.1 ≤ lim) {o : Int32} {n : Nat} (h : lp (fun t => z_X7_says_23 M p0 a1 t.1 t.2) n (a2, a3) = some o) (hK : (fun (q : Int32) => RTX X (some .int) (some (.int q)) M) o) : WS X M 23 [(0, rf X.1 p0), (1, .int a1), (2, .int a2), (3, .int a3)] [] := by
  refine lp_ind (P := fun (o : Int32) (t : Int32 × Int32) => (fun (q : Int32) => RTX X (some .int) (some (.int q)) M) o → WS X M 23 [(0, rf X.1 p0), (1, .int a1), (2, .int t.1), (3, .int t.2)] []) (fun t o hs  hK => ?_) n (a2, a3) o h  hK
  rcases hs with h | ⟨u, h, hu⟩
  · exact b_X7_says_23 O hi hn h hK
  · exact b_X7_says_23 O hi hn h (show KI _ _ (.inr u) from hu hK)
def f_X7_says (M : MM) (p0 : Nat) (a1 : Int32) : Option (Int32) :=
  if p0 < M.1 ∧ kd p0 = 7 then (if ((-2) : Int32) ≤ a1 then (if a1 = (-1) then ((fI M p0 7 12).bind fun v1 => some v1) else (lp (fun t => z_X7_says_23 M p0 a1 t.1 t.2) FU ((-9), 0))) else (some ((-1)))) else none
theorem r_X7_says {M : MM} {p0 : Nat} {a1 : Int32} {o : Int32} (h : f_X7_says M p0 a1 = some o) : p0 < M.1 ∧ kd p0 = 7 := by
  unfold f_X7_says at h
  exact (gd h).1
theorem cy_X7_says : CallY yX7_says cX7_says 4 (some .int) 1 := ⟨by decide +kernel, tw_831, tw_47, by decide⟩
set_option maxHeartbeats 4000000 in
set_option maxRecDepth 100000 in
theorem c_X7_says {G : GG} {M : MM} {p0 : Nat} {a1 : Int32} {r : Int32} (h : f_X7_says M p0 a1 = some r) : Ct G yX7_says cX7_says 4 (some .int) 0 [rf G p0, .int a1] M (some (.int r)) M := by
  refine ct_of (by decide +kernel) (Nat.le_of_ble_eq_true rfl) (fun X hX O hK hi0 => ?_)
  subst hX
  obtain ⟨lim, hlim⟩ : ∃ z, z = M.1 := ⟨_, rfl⟩
  rw [← hlim] at O
  replace O : OKX X cX7_says RX7 0 lim 4 := O
  have hi : True := trivial
  have hn : M.1 ≤ lim := Nat.le_of_eq hlim.symm
  show WS X M 0 [(0, rf X.1 p0), (1, .int a1)] []
  unfold f_X7_says at h
  obtain ⟨hg0, h⟩ := gd h
  refine s_iload_n (pc := 0) O dX7_says_0 rfl 1 rfl ?_
  refine s_bipush (pc := 1) O (v := (-2)) dX7_says_1 (by decide) ?_
  refine s_icmp_ge (pc := 3) O (tgt := 8) dX7_says_3 (by decide) (fun c => ?_) (fun c => ?_)
  · have h := ifp c h
    refine s_iload_n (pc := 8) O dX7_says_8 rfl 1 rfl ?_
    refine s_iconst (pc := 9) O (v := (-1)) dX7_says_9 (by decide) ?_
    refine s_icmp_ne (pc := 10) O (tgt := 18) dX7_says_10 (by decide) (fun c => ?_) (fun c => ?_)
    · have h := ifn c h
      refine s_bipush (pc := 18) O (v := (-9)) dX7_says_18 (by decide) ?_
      refine s_istore_n (pc := 20) O (loc' := [(2, .int (-9)), (0, rf X.1 p0), (1, .int a1)]) dX7_says_20 rfl (by decide) rfl ?_
      refine s_iconst (pc := 21) O (v := 0) dX7_says_21 (by decide) ?_
      refine s_istore_n (pc := 22) O (loc' := [(3, .int 0), (2, .int (-9)), (0, rf X.1 p0), (1, .int a1)]) dX7_says_22 rfl (by decide) rfl ?_
      exact s_sub (pc := 23) O [2, 3, 1, 0] rfl (l_X7_says_23 O hi hn h hK)
    · have h := ifp c h
      refine s_aload_n (pc := 13) O dX7_says_13 rfl 0 rfl ?_
      obtain ⟨v1, e, h⟩ := bd h
      refine s_getI (pc := 14) O kc7 (k := 12) rfl tw_683 e dX7_says_14 ?_
      cases h
      exact s_iret (pc := 17) O hK dX7_says_17
  · have h := ifn c h
    refine s_iconst (pc := 6) O (v := (-1)) dX7_says_6 (by decide) ?_
    cases h
    exact s_iret (pc := 7) O hK dX7_says_7

def f_X7_trace (M : MM) (p0 : Nat) : Option (Int64) :=
  if p0 < M.1 ∧ kd p0 = 7 then ((fJ M p0 7 0).bind fun v1 => some v1) else none
theorem r_X7_trace {M : MM} {p0 : Nat} {o : Int64} (h : f_X7_trace M p0 = some o) : p0 < M.1 ∧ kd p0 = 7 := by
  unfold f_X7_trace at h
  exact (gd h).1
theorem cy_X7_trace : CallY yX7_trace cX7_trace 1 (some .long) 0 := ⟨by decide +kernel, tw_915, tw_47, by decide⟩
set_option maxHeartbeats 4000000 in
set_option maxRecDepth 100000 in
theorem c_X7_trace {G : GG} {M : MM} {p0 : Nat} {r : Int64} (h : f_X7_trace M p0 = some r) : Ct G yX7_trace cX7_trace 1 (some .long) 0 [rf G p0] M (some (.long r)) M := by
  refine ct_of (by decide +kernel) (Nat.le_of_ble_eq_true rfl) (fun X hX O hK hi0 => ?_)
  subst hX
  obtain ⟨lim, hlim⟩ : ∃ z, z = M.1 := ⟨_, rfl⟩
  rw [← hlim] at O
  replace O : OKX X cX7_trace RX7 0 lim 1 := O
  have hi : True := trivial
  have hn : M.1 ≤ lim := Nat.le_of_eq hlim.symm
  show WS X M 0 [(0, rf X.1 p0)] []
  unfold f_X7_trace at h
  obtain ⟨hg0, h⟩ := gd h
  refine s_aload_n (pc := 0) O dX7_trace_0 rfl 0 rfl ?_
  obtain ⟨v1, e, h⟩ := bd h
  refine s_getJ (pc := 1) O kc7 (k := 0) rfl tw_671 e dX7_trace_1 ?_
  cases h
  exact s_lret (pc := 4) O hK dX7_trace_4

def f_X7_undo (M : MM) (p0 : Nat) : Option (Int32 × MM) :=
  if p0 < M.1 ∧ kd p0 = 7 then ((fR M p0 7 5).bind fun v1 => (aI M v1 0).bind fun v2 => if v2 = 0 then (some (((-2), M))) else ((fR M p0 7 5).bind fun v3 => (aI M v3 0).bind fun v4 => (waI M v3 0 ((v4 - 1))).bind fun M5 => (fR M5 p0 7 5).bind fun v6 => (aI M5 v6 0).bind fun v7 => some ((v7, M5)))) else none
theorem r_X7_undo {M : MM} {p0 : Nat} {o : Int32 × MM} (h : f_X7_undo M p0 = some o) : p0 < M.1 ∧ kd p0 = 7 := by
  unfold f_X7_undo at h
  exact (gd h).1
theorem cy_X7_undo : CallY yX7_undo cX7_undo 1 (some .int) 0 := ⟨by decide +kernel, tw_819, tw_47, by decide⟩
set_option maxHeartbeats 4000000 in
set_option maxRecDepth 100000 in
theorem c_X7_undo {G : GG} {M : MM} {p0 : Nat} {r : Int32} {M' : MM} (h : f_X7_undo M p0 = some (r, M')) (hn : M.1 ≤ M'.1) : Ct G yX7_undo cX7_undo 1 (some .int) 0 [rf G p0] M (some (.int r)) M' := by
  refine ct_of (by decide +kernel) (Nat.le_of_ble_eq_true rfl) (fun X hX O hK hi0 => ?_)
  subst hX
  obtain ⟨lim, hlim⟩ : ∃ z, z = M'.1 := ⟨_, rfl⟩
  rw [← hlim] at O hn
  replace O : OKX X cX7_undo RX7 0 lim 1 := O
  have hi : True := trivial
  show WS X M 0 [(0, rf X.1 p0)] []
  replace hK : (fun (q : Int32 × MM) => RTX X (some .int) (some (.int q.1)) q.2) (r, M') := hK
  generalize (r, M') = o at h hK
  unfold f_X7_undo at h
  obtain ⟨hg0, h⟩ := gd h
  refine s_aload_n (pc := 0) O dX7_undo_0 rfl 0 rfl ?_
  obtain ⟨v1, e, h⟩ := bd h
  refine s_getR (pc := 1) O kc7 (k := 5) rfl tw_676 e dX7_undo_1 ?_
  refine s_iconst (pc := 4) O (v := 0) dX7_undo_4 (by decide) ?_
  obtain ⟨v2, e, h⟩ := bd h
  refine s_aldI (pc := 5) O e dX7_undo_5 ?_
  refine s_if_ne (pc := 6) O (tgt := 12) dX7_undo_6 (by decide) (fun c => ?_) (fun c => ?_)
  · have h := ifn c h
    refine s_aload_n (pc := 12) O dX7_undo_12 rfl 0 rfl ?_
    obtain ⟨v3, e, h⟩ := bd h
    refine s_getR (pc := 13) O kc7 (k := 5) rfl tw_676 e dX7_undo_13 ?_
    refine s_iconst (pc := 16) O (v := 0) dX7_undo_16 (by decide) ?_
    refine s_dup2 (pc := 17) O dX7_undo_17 rfl rfl ?_
    obtain ⟨v4, e, h⟩ := bd h
    refine s_aldI (pc := 18) O e dX7_undo_18 ?_
    refine s_iconst (pc := 19) O (v := 1) dX7_undo_19 (by decide) ?_
    refine s_isub (pc := 20) O dX7_undo_20 ?_
    obtain ⟨M5, e, h⟩ := bd h
    refine s_astI (pc := 21) O e dX7_undo_21 ?_
    have hn : M5.1 ≤ lim := by rw [waI_n e]; exact hn
    refine s_aload_n (pc := 22) O dX7_undo_22 rfl 0 rfl ?_
    obtain ⟨v6, e, h⟩ := bd h
    refine s_getR (pc := 23) O kc7 (k := 5) rfl tw_676 e dX7_undo_23 ?_
    refine s_iconst (pc := 26) O (v := 0) dX7_undo_26 (by decide) ?_
    obtain ⟨v7, e, h⟩ := bd h
    refine s_aldI (pc := 27) O e dX7_undo_27 ?_
    cases h
    exact s_iret (pc := 28) O hK dX7_undo_28
  · have h := ifp c h
    refine s_bipush (pc := 9) O (v := (-2)) dX7_undo_9 (by decide) ?_
    cases h
    exact s_iret (pc := 11) O hK dX7_undo_11

def j_X7_writtenIn_72 (M : MM) (p0 : Nat) (a2 : Int32) (a4 : Int32) (s0 : Int32) (s1 : Int32) : Option ((Int32) ⊕ (Int32 × Int32)) :=
  some ((.inr ((s1 + s0), (a4 + 1))))
set_option maxHeartbeats 4000000 in
set_option maxRecDepth 100000 in
theorem g_X7_writtenIn_72 {X : CT} {lim : Nat} {M : MM} {p0 : Nat} {a2 : Int32} {a4 : Int32} {s0 : Int32} {s1 : Int32} (O : OKX X cX7_writtenIn RX7 0 lim 5) (hi : True) (hn : M.1 ≤ lim) {o : (Int32) ⊕ (Int32 × Int32)} (h : j_X7_writtenIn_72 M p0 a2 a4 s0 s1 = some o) (hK : (KI (fun (q : Int32) => RTX X (some .int) (some (.int q)) M) (fun (t : Int32 × Int32) => WS X M 43 [(0, rf X.1 p0), (2, .int a2), (3, .int t.1), (4, .int t.2)] [])) o) : WS X M 72 [(0, rf X.1 p0), (2, .int a2), (4, .int a4)] [.int s0, .int s1] := by
  unfold j_X7_writtenIn_72 at h
  refine s_iadd (pc := 72) O dX7_writtenIn_72 ?_
  refine s_istore_n (pc := 73) O (loc' := [(3, .int (s1 + s0)), (0, rf X.1 p0), (2, .int a2), (4, .int a4)]) dX7_writtenIn_73 rfl (by decide) rfl ?_
  refine s_iinc (pc := 74) O (v := (a4 + 1)) (loc' := [(4, .int (a4 + 1)), (3, .int (s1 + s0)), (0, rf X.1 p0), (2, .int a2)]) dX7_writtenIn_74 3 rfl rfl (by decide) rfl ?_
  refine s_goto (pc := 77) O (tgt := 43) dX7_writtenIn_77 (by decide) ?_
  cases h
  exact s_sub (pc := 43) O [2, 3, 1, 0] rfl hK
def z_X7_writtenIn_43 (M : MM) (p0 : Nat) (a2 : Int32) (a3 : Int32) (a4 : Int32) : Option ((Int32) ⊕ (Int32 × Int32)) :=
  (fI M p0 7 12).bind fun v1 => if v1 ≤ a4 then (some ((.inl a3))) else ((fR M p0 7 9).bind fun v2 => (aI M v2 a4).bind fun v3 => if (v3 &&& (a2 ^^^ (-1))) = 0 then (j_X7_writtenIn_72 M p0 a2 a4 1 a3) else (j_X7_writtenIn_72 M p0 a2 a4 0 a3))
set_option maxHeartbeats 4000000 in
set_option maxRecDepth 100000 in
theorem b_X7_writtenIn_43 {X : CT} {lim : Nat} {M : MM} {p0 : Nat} {a2 : Int32} {a3 : Int32} {a4 : Int32} (O : OKX X cX7_writtenIn RX7 0 lim 5) (hi : True) (hn : M.1 ≤ lim) {o : (Int32) ⊕ (Int32 × Int32)} (h : z_X7_writtenIn_43 M p0 a2 a3 a4 = some o) (hK : (KI (fun (q : Int32) => RTX X (some .int) (some (.int q)) M) (fun (t : Int32 × Int32) => WS X M 43 [(0, rf X.1 p0), (2, .int a2), (3, .int t.1), (4, .int t.2)] [])) o) : WS X M 43 [(0, rf X.1 p0), (2, .int a2), (3, .int a3), (4, .int a4)] [] := by
  unfold z_X7_writtenIn_43 at h
  refine s_iload (pc := 43) O dX7_writtenIn_43 3 rfl ?_
  refine s_aload_n (pc := 45) O dX7_writtenIn_45 rfl 0 rfl ?_
  obtain ⟨v1, e, h⟩ := bd h
  refine s_getI (pc := 46) O kc7 (k := 12) rfl tw_683 e dX7_writtenIn_46 ?_
  refine s_icmp_ge (pc := 49) O (tgt := 80) dX7_writtenIn_49 (by decide) (fun c => ?_) (fun c => ?_)
  · have h := ifp c h
    refine s_iload_n (pc := 80) O dX7_writtenIn_80 rfl 2 rfl ?_
    cases h
    exact s_iret (pc := 81) O hK dX7_writtenIn_81
  · have h := ifn c h
    refine s_iload_n (pc := 52) O dX7_writtenIn_52 rfl 2 rfl ?_
    refine s_aload_n (pc := 53) O dX7_writtenIn_53 rfl 0 rfl ?_
    obtain ⟨v2, e, h⟩ := bd h
    refine s_getR (pc := 54) O kc7 (k := 9) rfl tw_680 e dX7_writtenIn_54 ?_
    refine s_iload (pc := 57) O dX7_writtenIn_57 3 rfl ?_
    obtain ⟨v3, e, h⟩ := bd h
    refine s_aldI (pc := 59) O e dX7_writtenIn_59 ?_
    refine s_iload_n (pc := 60) O dX7_writtenIn_60 rfl 1 rfl ?_
    refine s_iconst (pc := 61) O (v := (-1)) dX7_writtenIn_61 (by decide) ?_
    refine s_ixor (pc := 62) O dX7_writtenIn_62 ?_
    refine s_iand (pc := 63) O dX7_writtenIn_63 ?_
    refine s_if_ne (pc := 64) O (tgt := 71) dX7_writtenIn_64 (by decide) (fun c => ?_) (fun c => ?_)
    · have h := ifn c h
      refine s_iconst (pc := 71) O (v := 0) dX7_writtenIn_71 (by decide) ?_
      exact s_sub (pc := 72) O [0, 1, 3] rfl (g_X7_writtenIn_72 O hi hn h hK)
    · have h := ifp c h
      refine s_iconst (pc := 67) O (v := 1) dX7_writtenIn_67 (by decide) ?_
      refine s_goto (pc := 68) O (tgt := 72) dX7_writtenIn_68 (by decide) ?_
      exact s_sub (pc := 72) O [0, 1, 3] rfl (g_X7_writtenIn_72 O hi hn h hK)
set_option maxHeartbeats 4000000 in
set_option maxRecDepth 100000 in
theorem l_X7_writtenIn_43 {X : CT} {lim : Nat} {M : MM} {p0 : Nat} {a2 : Int32} {a3 : Int32} {a4 : Int32} (O : OKX X cX7_writtenIn RX7 0 lim 5) (hi : True) (hn : M.1 ≤ lim) {o : Int32} {n : Nat} (h : lp (fun t => z_X7_writtenIn_43 M p0 a2 t.1 t.2) n (a3, a4) = some o) (hK : (fun (q : Int32) => RTX X (some .int) (some (.int q)) M) o) : WS X M 43 [(0, rf X.1 p0), (2, .int a2), (3, .int a3), (4, .int a4)] [] := by
  refine lp_ind (P := fun (o : Int32) (t : Int32 × Int32) => (fun (q : Int32) => RTX X (some .int) (some (.int q)) M) o → WS X M 43 [(0, rf X.1 p0), (2, .int a2), (3, .int t.1), (4, .int t.2)] []) (fun t o hs  hK => ?_) n (a3, a4) o h  hK
  rcases hs with h | ⟨u, h, hu⟩
  · exact b_X7_writtenIn_43 O hi hn h hK
  · exact b_X7_writtenIn_43 O hi hn h (show KI _ _ (.inr u) from hu hK)
def j_X7_writtenIn_30 (M : MM) (p0 : Nat) (a1 : Int32) (a3 : Int32) (s0 : Int32) (s1 : Int32) : Option ((Int32) ⊕ (Int32 × Int32)) :=
  some ((.inr ((s1 ||| s0), (a3 + 1))))
set_option maxHeartbeats 4000000 in
set_option maxRecDepth 100000 in
theorem g_X7_writtenIn_30 {X : CT} {lim : Nat} {M : MM} {p0 : Nat} {a1 : Int32} {a3 : Int32} {s0 : Int32} {s1 : Int32} (O : OKX X cX7_writtenIn RX7 0 lim 5) (hi : True) (hn : M.1 ≤ lim) {o : (Int32) ⊕ (Int32 × Int32)} (h : j_X7_writtenIn_30 M p0 a1 a3 s0 s1 = some o) (hK : (KI (fun (q : Int32) => RTX X (some .int) (some (.int q)) M) (fun (t : Int32 × Int32) => WS X M 4 [(0, rf X.1 p0), (1, .int a1), (2, .int t.1), (3, .int t.2)] [])) o) : WS X M 30 [(0, rf X.1 p0), (1, .int a1), (3, .int a3)] [.int s0, .int s1] := by
  unfold j_X7_writtenIn_30 at h
  refine s_ior (pc := 30) O dX7_writtenIn_30 ?_
  refine s_istore_n (pc := 31) O (loc' := [(2, .int (s1 ||| s0)), (0, rf X.1 p0), (1, .int a1), (3, .int a3)]) dX7_writtenIn_31 rfl (by decide) rfl ?_
  refine s_iinc (pc := 32) O (v := (a3 + 1)) (loc' := [(3, .int (a3 + 1)), (2, .int (s1 ||| s0)), (0, rf X.1 p0), (1, .int a1)]) dX7_writtenIn_32 3 rfl rfl (by decide) rfl ?_
  refine s_goto (pc := 35) O (tgt := 4) dX7_writtenIn_35 (by decide) ?_
  cases h
  exact s_sub (pc := 4) O [2, 3, 1, 0] rfl hK
def z_X7_writtenIn_4 (M : MM) (p0 : Nat) (a1 : Int32) (a2 : Int32) (a3 : Int32) : Option ((Int32) ⊕ (Int32 × Int32)) :=
  if (8 : Int32) ≤ a3 then ((lp (fun t => z_X7_writtenIn_43 M p0 a2 t.1 t.2) FU (0, 0)).map .inl) else (if ((a1 >>> (a3 &&& 31)) &&& 1) = 1 then (j_X7_writtenIn_30 M p0 a1 a3 ((15 <<< ((4 * a3) &&& 31))) a2) else (j_X7_writtenIn_30 M p0 a1 a3 0 a2))
set_option maxHeartbeats 4000000 in
set_option maxRecDepth 100000 in
theorem b_X7_writtenIn_4 {X : CT} {lim : Nat} {M : MM} {p0 : Nat} {a1 : Int32} {a2 : Int32} {a3 : Int32} (O : OKX X cX7_writtenIn RX7 0 lim 5) (hi : True) (hn : M.1 ≤ lim) {o : (Int32) ⊕ (Int32 × Int32)} (h : z_X7_writtenIn_4 M p0 a1 a2 a3 = some o) (hK : (KI (fun (q : Int32) => RTX X (some .int) (some (.int q)) M) (fun (t : Int32 × Int32) => WS X M 4 [(0, rf X.1 p0), (1, .int a1), (2, .int t.1), (3, .int t.2)] [])) o) : WS X M 4 [(0, rf X.1 p0), (1, .int a1), (2, .int a2), (3, .int a3)] [] := by
  unfold z_X7_writtenIn_4 at h
  refine s_iload_n (pc := 4) O dX7_writtenIn_4 rfl 3 rfl ?_
  refine s_bipush (pc := 5) O (v := 8) dX7_writtenIn_5 (by decide) ?_
  refine s_icmp_ge (pc := 7) O (tgt := 38) dX7_writtenIn_7 (by decide) (fun c => ?_) (fun c => ?_)
  · have h := ifp c h
    obtain ⟨q0, hq0, ho0⟩ := mpi h; subst ho0; replace h := hq0
    refine s_iconst (pc := 38) O (v := 0) dX7_writtenIn_38 (by decide) ?_
    refine s_istore_n (pc := 39) O (loc' := [(3, .int 0), (0, rf X.1 p0), (1, .int a1), (2, .int a2)]) dX7_writtenIn_39 rfl (by decide) rfl ?_
    refine s_iconst (pc := 40) O (v := 0) dX7_writtenIn_40 (by decide) ?_
    refine s_istore (pc := 41) O (loc' := [(4, .int 0), (3, .int 0), (0, rf X.1 p0), (1, .int a1), (2, .int a2)]) dX7_writtenIn_41 (by decide) rfl ?_
    exact s_sub (pc := 43) O [2, 4, 1, 0] rfl (l_X7_writtenIn_43 O hi hn h hK)
  · have h := ifn c h
    refine s_iload_n (pc := 10) O dX7_writtenIn_10 rfl 2 rfl ?_
    refine s_iload_n (pc := 11) O dX7_writtenIn_11 rfl 1 rfl ?_
    refine s_iload_n (pc := 12) O dX7_writtenIn_12 rfl 3 rfl ?_
    refine s_ishr (pc := 13) O dX7_writtenIn_13 ?_
    refine s_iconst (pc := 14) O (v := 1) dX7_writtenIn_14 (by decide) ?_
    refine s_iand (pc := 15) O dX7_writtenIn_15 ?_
    refine s_iconst (pc := 16) O (v := 1) dX7_writtenIn_16 (by decide) ?_
    refine s_icmp_ne (pc := 17) O (tgt := 29) dX7_writtenIn_17 (by decide) (fun c => ?_) (fun c => ?_)
    · have h := ifn c h
      refine s_iconst (pc := 29) O (v := 0) dX7_writtenIn_29 (by decide) ?_
      exact s_sub (pc := 30) O [0, 1, 3] rfl (g_X7_writtenIn_30 O hi hn h hK)
    · have h := ifp c h
      refine s_bipush (pc := 20) O (v := 15) dX7_writtenIn_20 (by decide) ?_
      refine s_iconst (pc := 22) O (v := 4) dX7_writtenIn_22 (by decide) ?_
      refine s_iload_n (pc := 23) O dX7_writtenIn_23 rfl 3 rfl ?_
      refine s_imul (pc := 24) O dX7_writtenIn_24 ?_
      refine s_ishl (pc := 25) O dX7_writtenIn_25 ?_
      refine s_goto (pc := 26) O (tgt := 30) dX7_writtenIn_26 (by decide) ?_
      exact s_sub (pc := 30) O [0, 1, 3] rfl (g_X7_writtenIn_30 O hi hn h hK)
set_option maxHeartbeats 4000000 in
set_option maxRecDepth 100000 in
theorem l_X7_writtenIn_4 {X : CT} {lim : Nat} {M : MM} {p0 : Nat} {a1 : Int32} {a2 : Int32} {a3 : Int32} (O : OKX X cX7_writtenIn RX7 0 lim 5) (hi : True) (hn : M.1 ≤ lim) {o : Int32} {n : Nat} (h : lp (fun t => z_X7_writtenIn_4 M p0 a1 t.1 t.2) n (a2, a3) = some o) (hK : (fun (q : Int32) => RTX X (some .int) (some (.int q)) M) o) : WS X M 4 [(0, rf X.1 p0), (1, .int a1), (2, .int a2), (3, .int a3)] [] := by
  refine lp_ind (P := fun (o : Int32) (t : Int32 × Int32) => (fun (q : Int32) => RTX X (some .int) (some (.int q)) M) o → WS X M 4 [(0, rf X.1 p0), (1, .int a1), (2, .int t.1), (3, .int t.2)] []) (fun t o hs  hK => ?_) n (a2, a3) o h  hK
  rcases hs with h | ⟨u, h, hu⟩
  · exact b_X7_writtenIn_4 O hi hn h hK
  · exact b_X7_writtenIn_4 O hi hn h (show KI _ _ (.inr u) from hu hK)
def f_X7_writtenIn (M : MM) (p0 : Nat) (a1 : Int32) : Option (Int32) :=
  if p0 < M.1 ∧ kd p0 = 7 then (lp (fun t => z_X7_writtenIn_4 M p0 a1 t.1 t.2) FU (0, 0)) else none
theorem r_X7_writtenIn {M : MM} {p0 : Nat} {a1 : Int32} {o : Int32} (h : f_X7_writtenIn M p0 a1 = some o) : p0 < M.1 ∧ kd p0 = 7 := by
  unfold f_X7_writtenIn at h
  exact (gd h).1
theorem cy_X7_writtenIn : CallY yX7_writtenIn cX7_writtenIn 5 (some .int) 1 := ⟨by decide +kernel, tw_881, tw_47, by decide⟩
set_option maxHeartbeats 4000000 in
set_option maxRecDepth 100000 in
theorem c_X7_writtenIn {G : GG} {M : MM} {p0 : Nat} {a1 : Int32} {r : Int32} (h : f_X7_writtenIn M p0 a1 = some r) : Ct G yX7_writtenIn cX7_writtenIn 5 (some .int) 0 [rf G p0, .int a1] M (some (.int r)) M := by
  refine ct_of (by decide +kernel) (Nat.le_of_ble_eq_true rfl) (fun X hX O hK hi0 => ?_)
  subst hX
  obtain ⟨lim, hlim⟩ : ∃ z, z = M.1 := ⟨_, rfl⟩
  rw [← hlim] at O
  replace O : OKX X cX7_writtenIn RX7 0 lim 5 := O
  have hi : True := trivial
  have hn : M.1 ≤ lim := Nat.le_of_eq hlim.symm
  show WS X M 0 [(0, rf X.1 p0), (1, .int a1)] []
  unfold f_X7_writtenIn at h
  obtain ⟨hg0, h⟩ := gd h
  refine s_iconst (pc := 0) O (v := 0) dX7_writtenIn_0 (by decide) ?_
  refine s_istore_n (pc := 1) O (loc' := [(2, .int 0), (0, rf X.1 p0), (1, .int a1)]) dX7_writtenIn_1 rfl (by decide) rfl ?_
  refine s_iconst (pc := 2) O (v := 0) dX7_writtenIn_2 (by decide) ?_
  refine s_istore_n (pc := 3) O (loc' := [(3, .int 0), (2, .int 0), (0, rf X.1 p0), (1, .int a1)]) dX7_writtenIn_3 rfl (by decide) rfl ?_
  exact s_sub (pc := 4) O [2, 3, 1, 0] rfl (l_X7_writtenIn_4 O hi hn h hK)

def f_X7_wrote (M : MM) (p0 : Nat) (a1 : Int32) : Option (Int32) :=
  if p0 < M.1 ∧ kd p0 = 7 then (if (0 : Int32) ≤ a1 then ((fR M p0 7 5).bind fun v1 => (aI M v1 0).bind fun v2 => if v2 ≤ a1 then (some ((-5))) else ((fR M p0 7 5).bind fun v3 => (aI M v3 ((a1 + 1))).bind fun v4 => some v4)) else (some ((-1)))) else none
theorem r_X7_wrote {M : MM} {p0 : Nat} {a1 : Int32} {o : Int32} (h : f_X7_wrote M p0 a1 = some o) : p0 < M.1 ∧ kd p0 = 7 := by
  unfold f_X7_wrote at h
  exact (gd h).1
theorem cy_X7_wrote : CallY yX7_wrote cX7_wrote 2 (some .int) 1 := ⟨by decide +kernel, tw_823, tw_47, by decide⟩
set_option maxHeartbeats 4000000 in
set_option maxRecDepth 100000 in
theorem c_X7_wrote {G : GG} {M : MM} {p0 : Nat} {a1 : Int32} {r : Int32} (h : f_X7_wrote M p0 a1 = some r) : Ct G yX7_wrote cX7_wrote 2 (some .int) 0 [rf G p0, .int a1] M (some (.int r)) M := by
  refine ct_of (by decide +kernel) (Nat.le_of_ble_eq_true rfl) (fun X hX O hK hi0 => ?_)
  subst hX
  obtain ⟨lim, hlim⟩ : ∃ z, z = M.1 := ⟨_, rfl⟩
  rw [← hlim] at O
  replace O : OKX X cX7_wrote RX7 0 lim 2 := O
  have hi : True := trivial
  have hn : M.1 ≤ lim := Nat.le_of_eq hlim.symm
  show WS X M 0 [(0, rf X.1 p0), (1, .int a1)] []
  unfold f_X7_wrote at h
  obtain ⟨hg0, h⟩ := gd h
  refine s_iload_n (pc := 0) O dX7_wrote_0 rfl 1 rfl ?_
  refine s_if_ge (pc := 1) O (tgt := 6) dX7_wrote_1 (by decide) (fun c => ?_) (fun c => ?_)
  · have h := ifp c h
    refine s_iload_n (pc := 6) O dX7_wrote_6 rfl 1 rfl ?_
    refine s_aload_n (pc := 7) O dX7_wrote_7 rfl 0 rfl ?_
    obtain ⟨v1, e, h⟩ := bd h
    refine s_getR (pc := 8) O kc7 (k := 5) rfl tw_676 e dX7_wrote_8 ?_
    refine s_iconst (pc := 11) O (v := 0) dX7_wrote_11 (by decide) ?_
    obtain ⟨v2, e, h⟩ := bd h
    refine s_aldI (pc := 12) O e dX7_wrote_12 ?_
    refine s_icmp_ge (pc := 13) O (tgt := 27) dX7_wrote_13 (by decide) (fun c => ?_) (fun c => ?_)
    · have h := ifp c h
      refine s_bipush (pc := 27) O (v := (-5)) dX7_wrote_27 (by decide) ?_
      cases h
      exact s_iret (pc := 29) O hK dX7_wrote_29
    · have h := ifn c h
      refine s_aload_n (pc := 16) O dX7_wrote_16 rfl 0 rfl ?_
      obtain ⟨v3, e, h⟩ := bd h
      refine s_getR (pc := 17) O kc7 (k := 5) rfl tw_676 e dX7_wrote_17 ?_
      refine s_iload_n (pc := 20) O dX7_wrote_20 rfl 1 rfl ?_
      refine s_iconst (pc := 21) O (v := 1) dX7_wrote_21 (by decide) ?_
      refine s_iadd (pc := 22) O dX7_wrote_22 ?_
      obtain ⟨v4, e, h⟩ := bd h
      refine s_aldI (pc := 23) O e dX7_wrote_23 ?_
      refine s_goto (pc := 24) O (tgt := 29) dX7_wrote_24 (by decide) ?_
      cases h
      exact s_iret (pc := 29) O hK dX7_wrote_29
  · have h := ifn c h
    refine s_iconst (pc := 4) O (v := (-1)) dX7_wrote_4 (by decide) ?_
    cases h
    exact s_iret (pc := 5) O hK dX7_wrote_5

def j_X7_alphabet_87 (M : MM) (p0 : Nat) (a1 : Int32) (a2 : Int32) (a4 : Int32) (a5 : Int32) (s0 : Int32) : Option ((Int32) ⊕ (Int32 × Int32 × Int32)) :=
  some ((.inr (s0, a4, (a5 + 1))))
set_option maxHeartbeats 4000000 in
set_option maxRecDepth 100000 in
theorem g_X7_alphabet_87 {X : CT} {lim : Nat} {M : MM} {p0 : Nat} {a1 : Int32} {a2 : Int32} {a4 : Int32} {a5 : Int32} {s0 : Int32} (O : OKX X cX7_alphabet RX7 1 lim 7) (hi : True) (hn : M.1 ≤ lim) {o : (Int32) ⊕ (Int32 × Int32 × Int32)} (h : j_X7_alphabet_87 M p0 a1 a2 a4 a5 s0 = some o) (hK : (KI (fun (q : Int32) => RTX X (some .int) (some (.int q)) M) (fun (t : Int32 × Int32 × Int32) => WS X M 30 [(0, rf X.1 p0), (1, .int a1), (2, .int a2), (3, .int t.1), (4, .int t.2.1), (5, .int t.2.2)] [])) o) : WS X M 87 [(0, rf X.1 p0), (1, .int a1), (2, .int a2), (4, .int a4), (5, .int a5)] [.int s0] := by
  unfold j_X7_alphabet_87 at h
  refine s_istore_n (pc := 87) O (loc' := [(3, .int s0), (0, rf X.1 p0), (1, .int a1), (2, .int a2), (4, .int a4), (5, .int a5)]) dX7_alphabet_87 rfl (by decide) rfl ?_
  refine s_iinc (pc := 88) O (v := (a5 + 1)) (loc' := [(5, .int (a5 + 1)), (3, .int s0), (0, rf X.1 p0), (1, .int a1), (2, .int a2), (4, .int a4)]) dX7_alphabet_88 5 rfl rfl (by decide) rfl ?_
  refine s_goto (pc := 91) O (tgt := 30) dX7_alphabet_91 (by decide) ?_
  cases h
  exact s_sub (pc := 30) O [2, 3, 4, 1, 5, 0] rfl hK
def j_X7_alphabet_73 (M : MM) (p0 : Nat) (a1 : Int32) (a2 : Int32) (a3 : Int32) (a5 : Int32) (a6 : Int32) (s0 : Int32) : Option ((Int32) ⊕ (Int32 × Int32 × Int32)) :=
  if a6 ≤ a3 then (j_X7_alphabet_87 M p0 a1 a2 s0 a5 a3) else (j_X7_alphabet_87 M p0 a1 a2 s0 a5 a6)
set_option maxHeartbeats 4000000 in
set_option maxRecDepth 100000 in
theorem g_X7_alphabet_73 {X : CT} {lim : Nat} {M : MM} {p0 : Nat} {a1 : Int32} {a2 : Int32} {a3 : Int32} {a5 : Int32} {a6 : Int32} {s0 : Int32} (O : OKX X cX7_alphabet RX7 1 lim 7) (hi : True) (hn : M.1 ≤ lim) {o : (Int32) ⊕ (Int32 × Int32 × Int32)} (h : j_X7_alphabet_73 M p0 a1 a2 a3 a5 a6 s0 = some o) (hK : (KI (fun (q : Int32) => RTX X (some .int) (some (.int q)) M) (fun (t : Int32 × Int32 × Int32) => WS X M 30 [(0, rf X.1 p0), (1, .int a1), (2, .int a2), (3, .int t.1), (4, .int t.2.1), (5, .int t.2.2)] [])) o) : WS X M 73 [(0, rf X.1 p0), (1, .int a1), (2, .int a2), (3, .int a3), (5, .int a5), (6, .int a6)] [.int s0] := by
  unfold j_X7_alphabet_73 at h
  refine s_istore (pc := 73) O (loc' := [(4, .int s0), (0, rf X.1 p0), (1, .int a1), (2, .int a2), (3, .int a3), (5, .int a5), (6, .int a6)]) dX7_alphabet_73 (by decide) rfl ?_
  refine s_iload (pc := 75) O dX7_alphabet_75 6 rfl ?_
  refine s_iload_n (pc := 77) O dX7_alphabet_77 rfl 4 rfl ?_
  refine s_icmp_le (pc := 78) O (tgt := 86) dX7_alphabet_78 (by decide) (fun c => ?_) (fun c => ?_)
  · have h := ifp c h
    refine s_iload_n (pc := 86) O dX7_alphabet_86 rfl 4 rfl ?_
    exact s_sub (pc := 87) O [1, 2, 3, 0, 5] rfl (g_X7_alphabet_87 O hi hn h hK)
  · have h := ifn c h
    refine s_iload (pc := 81) O dX7_alphabet_81 6 rfl ?_
    refine s_goto (pc := 83) O (tgt := 87) dX7_alphabet_83 (by decide) ?_
    exact s_sub (pc := 87) O [1, 2, 3, 0, 5] rfl (g_X7_alphabet_87 O hi hn h hK)
def j_X7_alphabet_58 (M : MM) (p0 : Nat) (a1 : Int32) (a2 : Int32) (a3 : Int32) (a4 : Int32) (a5 : Int32) (s0 : Int32) : Option ((Int32) ⊕ (Int32 × Int32 × Int32)) :=
  if s0 ≤ a3 then (j_X7_alphabet_73 M p0 a1 a2 a3 a5 s0 a4) else (j_X7_alphabet_73 M p0 a1 a2 a3 a5 s0 a5)
set_option maxHeartbeats 4000000 in
set_option maxRecDepth 100000 in
theorem g_X7_alphabet_58 {X : CT} {lim : Nat} {M : MM} {p0 : Nat} {a1 : Int32} {a2 : Int32} {a3 : Int32} {a4 : Int32} {a5 : Int32} {s0 : Int32} (O : OKX X cX7_alphabet RX7 1 lim 7) (hi : True) (hn : M.1 ≤ lim) {o : (Int32) ⊕ (Int32 × Int32 × Int32)} (h : j_X7_alphabet_58 M p0 a1 a2 a3 a4 a5 s0 = some o) (hK : (KI (fun (q : Int32) => RTX X (some .int) (some (.int q)) M) (fun (t : Int32 × Int32 × Int32) => WS X M 30 [(0, rf X.1 p0), (1, .int a1), (2, .int a2), (3, .int t.1), (4, .int t.2.1), (5, .int t.2.2)] [])) o) : WS X M 58 [(0, rf X.1 p0), (1, .int a1), (2, .int a2), (3, .int a3), (4, .int a4), (5, .int a5)] [.int s0] := by
  unfold j_X7_alphabet_58 at h
  refine s_istore (pc := 58) O (loc' := [(6, .int s0), (0, rf X.1 p0), (1, .int a1), (2, .int a2), (3, .int a3), (4, .int a4), (5, .int a5)]) dX7_alphabet_58 (by decide) rfl ?_
  refine s_iload (pc := 60) O dX7_alphabet_60 0 rfl ?_
  refine s_iload_n (pc := 62) O dX7_alphabet_62 rfl 4 rfl ?_
  refine s_icmp_le (pc := 63) O (tgt := 71) dX7_alphabet_63 (by decide) (fun c => ?_) (fun c => ?_)
  · have h := ifp c h
    refine s_iload (pc := 71) O dX7_alphabet_71 5 rfl ?_
    exact s_sub (pc := 73) O [1, 2, 3, 4, 6, 0] rfl (g_X7_alphabet_73 O hi hn h hK)
  · have h := ifn c h
    refine s_iload (pc := 66) O dX7_alphabet_66 6 rfl ?_
    refine s_goto (pc := 68) O (tgt := 73) dX7_alphabet_68 (by decide) ?_
    exact s_sub (pc := 73) O [1, 2, 3, 4, 6, 0] rfl (g_X7_alphabet_73 O hi hn h hK)
def z_X7_alphabet_30 (M : MM) (p0 : Nat) (a1 : Int32) (a2 : Int32) (a3 : Int32) (a4 : Int32) (a5 : Int32) : Option ((Int32) ⊕ (Int32 × Int32 × Int32)) :=
  if (256 : Int32) ≤ a5 then ((if a2 = 0 then (some a4) else (some a3)).map .inl) else ((f_X7_ones M a5).bind fun v1 => if v1 = a1 then ((f_X7_writtenIn M p0 a5).bind fun v2 => j_X7_alphabet_58 M p0 a1 a2 a3 a4 a5 v2) else (j_X7_alphabet_58 M p0 a1 a2 a3 a4 a5 ((-9))))
set_option maxHeartbeats 4000000 in
set_option maxRecDepth 100000 in
theorem b_X7_alphabet_30 {X : CT} {lim : Nat} {M : MM} {p0 : Nat} {a1 : Int32} {a2 : Int32} {a3 : Int32} {a4 : Int32} {a5 : Int32} (O : OKX X cX7_alphabet RX7 1 lim 7) (hi : True) (hn : M.1 ≤ lim) {o : (Int32) ⊕ (Int32 × Int32 × Int32)} (h : z_X7_alphabet_30 M p0 a1 a2 a3 a4 a5 = some o) (hK : (KI (fun (q : Int32) => RTX X (some .int) (some (.int q)) M) (fun (t : Int32 × Int32 × Int32) => WS X M 30 [(0, rf X.1 p0), (1, .int a1), (2, .int a2), (3, .int t.1), (4, .int t.2.1), (5, .int t.2.2)] [])) o) : WS X M 30 [(0, rf X.1 p0), (1, .int a1), (2, .int a2), (3, .int a3), (4, .int a4), (5, .int a5)] [] := by
  unfold z_X7_alphabet_30 at h
  refine s_iload (pc := 30) O dX7_alphabet_30 5 rfl ?_
  refine s_sipush (pc := 32) O (v := 256) dX7_alphabet_32 (by decide) ?_
  refine s_icmp_ge (pc := 35) O (tgt := 94) dX7_alphabet_35 (by decide) (fun c => ?_) (fun c => ?_)
  · have h := ifp c h
    obtain ⟨q0, hq0, ho0⟩ := mpi h; subst ho0; replace h := hq0
    refine s_iload_n (pc := 94) O dX7_alphabet_94 rfl 2 rfl ?_
    refine s_if_ne (pc := 95) O (tgt := 103) dX7_alphabet_95 (by decide) (fun c => ?_) (fun c => ?_)
    · have h := ifn c h
      refine s_iload_n (pc := 103) O dX7_alphabet_103 rfl 3 rfl ?_
      cases h
      exact s_iret (pc := 104) O hK dX7_alphabet_104
    · have h := ifp c h
      refine s_iload (pc := 98) O dX7_alphabet_98 4 rfl ?_
      refine s_goto (pc := 100) O (tgt := 104) dX7_alphabet_100 (by decide) ?_
      cases h
      exact s_iret (pc := 104) O hK dX7_alphabet_104
  · have h := ifn c h
    refine s_iload (pc := 38) O dX7_alphabet_38 5 rfl ?_
    obtain ⟨v1, e, h⟩ := bd h
    refine s_callSi (pc := 40) O (As := [.int a5]) (c_X7_ones (G := X.1) e) cy_X7_ones tw_875 tw_876 (by decide) rfl (Nat.le_refl _) hn rfl (Nat.le_of_ble_eq_true rfl) dX7_alphabet_40 ?_
    refine s_iload_n (pc := 43) O dX7_alphabet_43 rfl 1 rfl ?_
    refine s_icmp_ne (pc := 44) O (tgt := 56) dX7_alphabet_44 (by decide) (fun c => ?_) (fun c => ?_)
    · have h := ifn c h
      refine s_bipush (pc := 56) O (v := (-9)) dX7_alphabet_56 (by decide) ?_
      exact s_sub (pc := 58) O [0, 1, 2, 3, 4, 5] rfl (g_X7_alphabet_58 O hi hn h hK)
    · have h := ifp c h
      refine s_aload_n (pc := 47) O dX7_alphabet_47 rfl 0 rfl ?_
      refine s_iload (pc := 48) O dX7_alphabet_48 5 rfl ?_
      obtain ⟨v2, e, h⟩ := bd h
      refine s_callVi (pc := 50) O (As := [.int a5]) kc7 (c_X7_writtenIn (G := X.1) e) cy_X7_writtenIn tw_878 tw_880 tw_37 (by decide) rfl (Nat.le_refl _) hn (r_X7_writtenIn e).1 (r_X7_writtenIn e).2 rfl (Nat.le_of_ble_eq_true rfl) dX7_alphabet_50 ?_
      refine s_goto (pc := 53) O (tgt := 58) dX7_alphabet_53 (by decide) ?_
      exact s_sub (pc := 58) O [0, 1, 2, 3, 4, 5] rfl (g_X7_alphabet_58 O hi hn h hK)
set_option maxHeartbeats 4000000 in
set_option maxRecDepth 100000 in
theorem l_X7_alphabet_30 {X : CT} {lim : Nat} {M : MM} {p0 : Nat} {a1 : Int32} {a2 : Int32} {a3 : Int32} {a4 : Int32} {a5 : Int32} (O : OKX X cX7_alphabet RX7 1 lim 7) (hi : True) (hn : M.1 ≤ lim) {o : Int32} {n : Nat} (h : lp (fun t => z_X7_alphabet_30 M p0 a1 a2 t.1 t.2.1 t.2.2) n (a3, a4, a5) = some o) (hK : (fun (q : Int32) => RTX X (some .int) (some (.int q)) M) o) : WS X M 30 [(0, rf X.1 p0), (1, .int a1), (2, .int a2), (3, .int a3), (4, .int a4), (5, .int a5)] [] := by
  refine lp_ind (P := fun (o : Int32) (t : Int32 × Int32 × Int32) => (fun (q : Int32) => RTX X (some .int) (some (.int q)) M) o → WS X M 30 [(0, rf X.1 p0), (1, .int a1), (2, .int a2), (3, .int t.1), (4, .int t.2.1), (5, .int t.2.2)] []) (fun t o hs  hK => ?_) n (a3, a4, a5) o h  hK
  rcases hs with h | ⟨u, h, hu⟩
  · exact b_X7_alphabet_30 O hi hn h hK
  · exact b_X7_alphabet_30 O hi hn h (show KI _ _ (.inr u) from hu hK)
def f_X7_alphabet (M : MM) (p0 : Nat) (a1 : Int32) (a2 : Int32) : Option (Int32) :=
  if p0 < M.1 ∧ kd p0 = 7 then ((f_X7_in M a1 1 8).bind fun v1 => if v1 = 0 then (some ((-1))) else ((f_X7_in M a2 0 1).bind fun v2 => if v2 = 0 then (some ((-1))) else (lp (fun t => z_X7_alphabet_30 M p0 a1 a2 t.1 t.2.1 t.2.2) FU ((-9), 0, 0)))) else none
theorem r_X7_alphabet {M : MM} {p0 : Nat} {a1 : Int32} {a2 : Int32} {o : Int32} (h : f_X7_alphabet M p0 a1 a2 = some o) : p0 < M.1 ∧ kd p0 = 7 := by
  unfold f_X7_alphabet at h
  exact (gd h).1
theorem cy_X7_alphabet : CallY yX7_alphabet cX7_alphabet 7 (some .int) 2 := ⟨by decide +kernel, tw_874, tw_47, by decide⟩
set_option maxHeartbeats 4000000 in
set_option maxRecDepth 100000 in
theorem c_X7_alphabet {G : GG} {M : MM} {p0 : Nat} {a1 : Int32} {a2 : Int32} {r : Int32} (h : f_X7_alphabet M p0 a1 a2 = some r) : Ct G yX7_alphabet cX7_alphabet 7 (some .int) 1 [rf G p0, .int a1, .int a2] M (some (.int r)) M := by
  refine ct_of (by decide +kernel) (Nat.le_of_ble_eq_true rfl) (fun X hX O hK hi0 => ?_)
  subst hX
  obtain ⟨lim, hlim⟩ : ∃ z, z = M.1 := ⟨_, rfl⟩
  rw [← hlim] at O
  replace O : OKX X cX7_alphabet RX7 1 lim 7 := O
  have hi : True := trivial
  have hn : M.1 ≤ lim := Nat.le_of_eq hlim.symm
  show WS X M 0 [(0, rf X.1 p0), (1, .int a1), (2, .int a2)] []
  unfold f_X7_alphabet at h
  obtain ⟨hg0, h⟩ := gd h
  refine s_iload_n (pc := 0) O dX7_alphabet_0 rfl 1 rfl ?_
  refine s_iconst (pc := 1) O (v := 1) dX7_alphabet_1 (by decide) ?_
  refine s_bipush (pc := 2) O (v := 8) dX7_alphabet_2 (by decide) ?_
  obtain ⟨v1, e, h⟩ := bd h
  refine s_callSi (pc := 4) O (As := [.int a1, .int 1, .int 8]) (c_X7_in (G := X.1) e) cy_X7_in tw_660 tw_661 (by decide) rfl (Nat.le_refl _) hn rfl (Nat.le_of_ble_eq_true rfl) dX7_alphabet_4 ?_
  refine s_if_eq (pc := 7) O (tgt := 19) dX7_alphabet_7 (by decide) (fun c => ?_) (fun c => ?_)
  · have h := ifp c h
    refine s_iconst (pc := 19) O (v := (-1)) dX7_alphabet_19 (by decide) ?_
    cases h
    exact s_iret (pc := 20) O hK dX7_alphabet_20
  · have h := ifn c h
    refine s_iload_n (pc := 10) O dX7_alphabet_10 rfl 2 rfl ?_
    refine s_iconst (pc := 11) O (v := 0) dX7_alphabet_11 (by decide) ?_
    refine s_iconst (pc := 12) O (v := 1) dX7_alphabet_12 (by decide) ?_
    obtain ⟨v2, e, h⟩ := bd h
    refine s_callSi (pc := 13) O (As := [.int a2, .int 0, .int 1]) (c_X7_in (G := X.1) e) cy_X7_in tw_660 tw_661 (by decide) rfl (Nat.le_refl _) hn rfl (Nat.le_of_ble_eq_true rfl) dX7_alphabet_13 ?_
    refine s_if_ne (pc := 16) O (tgt := 21) dX7_alphabet_16 (by decide) (fun c => ?_) (fun c => ?_)
    · have h := ifn c h
      refine s_bipush (pc := 21) O (v := (-9)) dX7_alphabet_21 (by decide) ?_
      refine s_istore_n (pc := 23) O (loc' := [(3, .int (-9)), (0, rf X.1 p0), (1, .int a1), (2, .int a2)]) dX7_alphabet_23 rfl (by decide) rfl ?_
      refine s_iconst (pc := 24) O (v := 0) dX7_alphabet_24 (by decide) ?_
      refine s_istore (pc := 25) O (loc' := [(4, .int 0), (3, .int (-9)), (0, rf X.1 p0), (1, .int a1), (2, .int a2)]) dX7_alphabet_25 (by decide) rfl ?_
      refine s_iconst (pc := 27) O (v := 0) dX7_alphabet_27 (by decide) ?_
      refine s_istore (pc := 28) O (loc' := [(5, .int 0), (4, .int 0), (3, .int (-9)), (0, rf X.1 p0), (1, .int a1), (2, .int a2)]) dX7_alphabet_28 (by decide) rfl ?_
      exact s_sub (pc := 30) O [3, 4, 5, 2, 1, 0] rfl (l_X7_alphabet_30 O hi hn h hK)
    · have h := ifp c h
      refine s_iconst (pc := 19) O (v := (-1)) dX7_alphabet_19 (by decide) ?_
      cases h
      exact s_iret (pc := 20) O hK dX7_alphabet_20

def j_X7_apart_37 (M : MM) (a0 : Int32) (a1 : Int32) (a3 : Int32) (s0 : Int32) (s1 : Int32) : Option ((Int32) ⊕ (Int32 × Int32)) :=
  some ((.inr ((s1 + s0), (a3 + 1))))
set_option maxHeartbeats 4000000 in
set_option maxRecDepth 100000 in
theorem g_X7_apart_37 {X : CT} {lim : Nat} {M : MM} {a0 : Int32} {a1 : Int32} {a3 : Int32} {s0 : Int32} {s1 : Int32} (O : OKX X cX7_apart RX7 1 lim 5) (hi : True) (hn : M.1 ≤ lim) {o : (Int32) ⊕ (Int32 × Int32)} (h : j_X7_apart_37 M a0 a1 a3 s0 s1 = some o) (hK : (KI (fun (q : Int32) => RTX X (some .int) (some (.int q)) M) (fun (t : Int32 × Int32) => WS X M 4 [(0, .int a0), (1, .int a1), (2, .int t.1), (3, .int t.2)] [])) o) : WS X M 37 [(0, .int a0), (1, .int a1), (3, .int a3)] [.int s0, .int s1] := by
  unfold j_X7_apart_37 at h
  refine s_iadd (pc := 37) O dX7_apart_37 ?_
  refine s_istore_n (pc := 38) O (loc' := [(2, .int (s1 + s0)), (0, .int a0), (1, .int a1), (3, .int a3)]) dX7_apart_38 rfl (by decide) rfl ?_
  refine s_iinc (pc := 39) O (v := (a3 + 1)) (loc' := [(3, .int (a3 + 1)), (2, .int (s1 + s0)), (0, .int a0), (1, .int a1)]) dX7_apart_39 3 rfl rfl (by decide) rfl ?_
  refine s_goto (pc := 42) O (tgt := 4) dX7_apart_42 (by decide) ?_
  cases h
  exact s_sub (pc := 4) O [2, 3, 1, 0] rfl hK
def z_X7_apart_4 (M : MM) (a0 : Int32) (a1 : Int32) (a2 : Int32) (a3 : Int32) : Option ((Int32) ⊕ (Int32 × Int32)) :=
  if (8 : Int32) ≤ a3 then (some ((.inl a2))) else ((f_X7_countOf M a0 a3).bind fun v1 => (f_X7_countOf M a1 a3).bind fun v2 => if (0 : Int32) ≤ (v1 - v2) then (j_X7_apart_37 M a0 a1 a3 ((v1 - v2)) a2) else (j_X7_apart_37 M a0 a1 a3 ((-(v1 - v2))) a2))
set_option maxHeartbeats 4000000 in
set_option maxRecDepth 100000 in
theorem b_X7_apart_4 {X : CT} {lim : Nat} {M : MM} {a0 : Int32} {a1 : Int32} {a2 : Int32} {a3 : Int32} (O : OKX X cX7_apart RX7 1 lim 5) (hi : True) (hn : M.1 ≤ lim) {o : (Int32) ⊕ (Int32 × Int32)} (h : z_X7_apart_4 M a0 a1 a2 a3 = some o) (hK : (KI (fun (q : Int32) => RTX X (some .int) (some (.int q)) M) (fun (t : Int32 × Int32) => WS X M 4 [(0, .int a0), (1, .int a1), (2, .int t.1), (3, .int t.2)] [])) o) : WS X M 4 [(0, .int a0), (1, .int a1), (2, .int a2), (3, .int a3)] [] := by
  unfold z_X7_apart_4 at h
  refine s_iload_n (pc := 4) O dX7_apart_4 rfl 3 rfl ?_
  refine s_bipush (pc := 5) O (v := 8) dX7_apart_5 (by decide) ?_
  refine s_icmp_ge (pc := 7) O (tgt := 45) dX7_apart_7 (by decide) (fun c => ?_) (fun c => ?_)
  · have h := ifp c h
    refine s_iload_n (pc := 45) O dX7_apart_45 rfl 2 rfl ?_
    cases h
    exact s_iret (pc := 46) O hK dX7_apart_46
  · have h := ifn c h
    refine s_iload_n (pc := 10) O dX7_apart_10 rfl 0 rfl ?_
    refine s_iload_n (pc := 11) O dX7_apart_11 rfl 3 rfl ?_
    obtain ⟨v1, e, h⟩ := bd h
    refine s_callSi (pc := 12) O (As := [.int a0, .int a3]) (c_X7_countOf (G := X.1) e) cy_X7_countOf tw_805 tw_806 (by decide) rfl (Nat.le_refl _) hn rfl (Nat.le_of_ble_eq_true rfl) dX7_apart_12 ?_
    refine s_iload_n (pc := 15) O dX7_apart_15 rfl 1 rfl ?_
    refine s_iload_n (pc := 16) O dX7_apart_16 rfl 3 rfl ?_
    obtain ⟨v2, e, h⟩ := bd h
    refine s_callSi (pc := 17) O (As := [.int a1, .int a3]) (c_X7_countOf (G := X.1) e) cy_X7_countOf tw_805 tw_806 (by decide) rfl (Nat.le_refl _) hn rfl (Nat.le_of_ble_eq_true rfl) dX7_apart_17 ?_
    refine s_isub (pc := 20) O dX7_apart_20 ?_
    refine s_istore (pc := 21) O (loc' := [(4, .int (v1 - v2)), (0, .int a0), (1, .int a1), (2, .int a2), (3, .int a3)]) dX7_apart_21 (by decide) rfl ?_
    refine s_iload_n (pc := 23) O dX7_apart_23 rfl 3 rfl ?_
    refine s_iload (pc := 24) O dX7_apart_24 0 rfl ?_
    refine s_if_ge (pc := 26) O (tgt := 35) dX7_apart_26 (by decide) (fun c => ?_) (fun c => ?_)
    · have h := ifp c h
      refine s_iload (pc := 35) O dX7_apart_35 0 rfl ?_
      exact s_sub (pc := 37) O [1, 2, 4] rfl (g_X7_apart_37 O hi hn h hK)
    · have h := ifn c h
      refine s_iload (pc := 29) O dX7_apart_29 0 rfl ?_
      refine s_ineg (pc := 31) O dX7_apart_31 ?_
      refine s_goto (pc := 32) O (tgt := 37) dX7_apart_32 (by decide) ?_
      exact s_sub (pc := 37) O [1, 2, 4] rfl (g_X7_apart_37 O hi hn h hK)
set_option maxHeartbeats 4000000 in
set_option maxRecDepth 100000 in
theorem l_X7_apart_4 {X : CT} {lim : Nat} {M : MM} {a0 : Int32} {a1 : Int32} {a2 : Int32} {a3 : Int32} (O : OKX X cX7_apart RX7 1 lim 5) (hi : True) (hn : M.1 ≤ lim) {o : Int32} {n : Nat} (h : lp (fun t => z_X7_apart_4 M a0 a1 t.1 t.2) n (a2, a3) = some o) (hK : (fun (q : Int32) => RTX X (some .int) (some (.int q)) M) o) : WS X M 4 [(0, .int a0), (1, .int a1), (2, .int a2), (3, .int a3)] [] := by
  refine lp_ind (P := fun (o : Int32) (t : Int32 × Int32) => (fun (q : Int32) => RTX X (some .int) (some (.int q)) M) o → WS X M 4 [(0, .int a0), (1, .int a1), (2, .int t.1), (3, .int t.2)] []) (fun t o hs  hK => ?_) n (a2, a3) o h  hK
  rcases hs with h | ⟨u, h, hu⟩
  · exact b_X7_apart_4 O hi hn h hK
  · exact b_X7_apart_4 O hi hn h (show KI _ _ (.inr u) from hu hK)
def f_X7_apart (M : MM) (a0 : Int32) (a1 : Int32) : Option (Int32) :=
  lp (fun t => z_X7_apart_4 M a0 a1 t.1 t.2) FU (0, 0)
theorem cy_X7_apart : CallY yX7_apart cX7_apart 5 (some .int) 2 := ⟨by decide +kernel, tw_842, tw_47, by decide⟩
set_option maxHeartbeats 4000000 in
set_option maxRecDepth 100000 in
theorem c_X7_apart {G : GG} {M : MM} {a0 : Int32} {a1 : Int32} {r : Int32} (h : f_X7_apart M a0 a1 = some r) : Ct G yX7_apart cX7_apart 5 (some .int) 1 [.int a0, .int a1] M (some (.int r)) M := by
  refine ct_of (by decide +kernel) (Nat.le_of_ble_eq_true rfl) (fun X hX O hK hi0 => ?_)
  subst hX
  obtain ⟨lim, hlim⟩ : ∃ z, z = M.1 := ⟨_, rfl⟩
  rw [← hlim] at O
  replace O : OKX X cX7_apart RX7 1 lim 5 := O
  have hi : True := trivial
  have hn : M.1 ≤ lim := Nat.le_of_eq hlim.symm
  show WS X M 0 [(0, .int a0), (1, .int a1)] []
  unfold f_X7_apart at h
  refine s_iconst (pc := 0) O (v := 0) dX7_apart_0 (by decide) ?_
  refine s_istore_n (pc := 1) O (loc' := [(2, .int 0), (0, .int a0), (1, .int a1)]) dX7_apart_1 rfl (by decide) rfl ?_
  refine s_iconst (pc := 2) O (v := 0) dX7_apart_2 (by decide) ?_
  refine s_istore_n (pc := 3) O (loc' := [(3, .int 0), (2, .int 0), (0, .int a0), (1, .int a1)]) dX7_apart_3 rfl (by decide) rfl ?_
  exact s_sub (pc := 4) O [2, 3, 1, 0] rfl (l_X7_apart_4 O hi hn h hK)

def z_X7_back_25 (M : MM) (p0 : Nat) (a1 : Int32) (a2 : Int32) : Option ((Int32 × MM) ⊕ (Int32 × MM)) :=
  if (13 : Int32) ≤ a2 then (((fR M p0 7 5).bind fun v1 => (aI M v1 0).bind fun v2 => some ((v2, M))).map .inl) else ((fR M p0 7 5).bind fun v3 => (fR M p0 7 6).bind fun v4 => (aI M v4 (((13 * a1) + a2))).bind fun v5 => (waI M v3 a2 v5).bind fun M6 => some ((.inr ((a2 + 1), M6))))
set_option maxHeartbeats 4000000 in
set_option maxRecDepth 100000 in
theorem b_X7_back_25 {X : CT} {lim : Nat} {M : MM} {p0 : Nat} {a1 : Int32} {a2 : Int32} (O : OKX X cX7_back RX7 1 lim 3) (hi : True) (hn : M.1 ≤ lim) {o : (Int32 × MM) ⊕ (Int32 × MM)} (h : z_X7_back_25 M p0 a1 a2 = some o) (hK : (KI (fun (q : Int32 × MM) => RTX X (some .int) (some (.int q.1)) q.2) (fun (t : Int32 × MM) => t.2.1 ≤ lim → WS X t.2 25 [(0, rf X.1 p0), (1, .int a1), (2, .int t.1)] [])) o) : WS X M 25 [(0, rf X.1 p0), (1, .int a1), (2, .int a2)] [] := by
  unfold z_X7_back_25 at h
  refine s_iload_n (pc := 25) O dX7_back_25 rfl 2 rfl ?_
  refine s_bipush (pc := 26) O (v := 13) dX7_back_26 (by decide) ?_
  refine s_icmp_ge (pc := 28) O (tgt := 54) dX7_back_28 (by decide) (fun c => ?_) (fun c => ?_)
  · have h := ifp c h
    obtain ⟨q0, hq0, ho0⟩ := mpi h; subst ho0; replace h := hq0
    refine s_aload_n (pc := 54) O dX7_back_54 rfl 0 rfl ?_
    obtain ⟨v1, e, h⟩ := bd h
    refine s_getR (pc := 55) O kc7 (k := 5) rfl tw_676 e dX7_back_55 ?_
    refine s_iconst (pc := 58) O (v := 0) dX7_back_58 (by decide) ?_
    obtain ⟨v2, e, h⟩ := bd h
    refine s_aldI (pc := 59) O e dX7_back_59 ?_
    cases h
    exact s_iret (pc := 60) O hK dX7_back_60
  · have h := ifn c h
    refine s_aload_n (pc := 31) O dX7_back_31 rfl 0 rfl ?_
    obtain ⟨v3, e, h⟩ := bd h
    refine s_getR (pc := 32) O kc7 (k := 5) rfl tw_676 e dX7_back_32 ?_
    refine s_iload_n (pc := 35) O dX7_back_35 rfl 2 rfl ?_
    refine s_aload_n (pc := 36) O dX7_back_36 rfl 0 rfl ?_
    obtain ⟨v4, e, h⟩ := bd h
    refine s_getR (pc := 37) O kc7 (k := 6) rfl tw_677 e dX7_back_37 ?_
    refine s_bipush (pc := 40) O (v := 13) dX7_back_40 (by decide) ?_
    refine s_iload_n (pc := 42) O dX7_back_42 rfl 1 rfl ?_
    refine s_imul (pc := 43) O dX7_back_43 ?_
    refine s_iload_n (pc := 44) O dX7_back_44 rfl 2 rfl ?_
    refine s_iadd (pc := 45) O dX7_back_45 ?_
    obtain ⟨v5, e, h⟩ := bd h
    refine s_aldI (pc := 46) O e dX7_back_46 ?_
    obtain ⟨M6, e, h⟩ := bd h
    refine s_astI (pc := 47) O e dX7_back_47 ?_
    have hn : M6.1 ≤ lim := by rw [waI_n e]; exact hn
    refine s_iinc (pc := 48) O (v := (a2 + 1)) (loc' := [(2, .int (a2 + 1)), (0, rf X.1 p0), (1, .int a1)]) dX7_back_48 2 rfl rfl (by decide) rfl ?_
    refine s_goto (pc := 51) O (tgt := 25) dX7_back_51 (by decide) ?_
    cases h
    exact s_sub (pc := 25) O [1, 2, 0] rfl (hK hn)
set_option maxHeartbeats 4000000 in
set_option maxRecDepth 100000 in
theorem l_X7_back_25 {X : CT} {lim : Nat} {M : MM} {p0 : Nat} {a1 : Int32} {a2 : Int32} (O : OKX X cX7_back RX7 1 lim 3) (hi : True) (hn : M.1 ≤ lim) {o : Int32 × MM} {n : Nat} (h : lp (fun t => z_X7_back_25 t.2 p0 a1 t.1) n (a2, M) = some o) (hK : (fun (q : Int32 × MM) => RTX X (some .int) (some (.int q.1)) q.2) o) : WS X M 25 [(0, rf X.1 p0), (1, .int a1), (2, .int a2)] [] := by
  refine lp_ind (P := fun (o : Int32 × MM) (t : Int32 × MM) => t.2.1 ≤ lim → (fun (q : Int32 × MM) => RTX X (some .int) (some (.int q.1)) q.2) o → WS X t.2 25 [(0, rf X.1 p0), (1, .int a1), (2, .int t.1)] []) (fun t o hs hn hK => ?_) n (a2, M) o h hn hK
  rcases hs with h | ⟨u, h, hu⟩
  · exact b_X7_back_25 O hi hn h hK
  · exact b_X7_back_25 O hi hn h (show KI _ _ (.inr u) from fun hn => hu hn hK)
def f_X7_back (M : MM) (p0 : Nat) (a1 : Int32) : Option (Int32 × MM) :=
  if p0 < M.1 ∧ kd p0 = 7 then ((f_X7_in M a1 0 1).bind fun v1 => if v1 = 0 then (some (((-1), M))) else ((fR M p0 7 7).bind fun v2 => (aZ M v2 a1).bind fun v3 => if v3 = 0 then (some (((-2), M))) else (lp (fun t => z_X7_back_25 t.2 p0 a1 t.1) FU (0, M)))) else none
theorem r_X7_back {M : MM} {p0 : Nat} {a1 : Int32} {o : Int32 × MM} (h : f_X7_back M p0 a1 = some o) : p0 < M.1 ∧ kd p0 = 7 := by
  unfold f_X7_back at h
  exact (gd h).1
theorem cy_X7_back : CallY yX7_back cX7_back 3 (some .int) 1 := ⟨by decide +kernel, tw_907, tw_47, by decide⟩
set_option maxHeartbeats 4000000 in
set_option maxRecDepth 100000 in
theorem c_X7_back {G : GG} {M : MM} {p0 : Nat} {a1 : Int32} {r : Int32} {M' : MM} (h : f_X7_back M p0 a1 = some (r, M')) (hn : M.1 ≤ M'.1) : Ct G yX7_back cX7_back 3 (some .int) 1 [rf G p0, .int a1] M (some (.int r)) M' := by
  refine ct_of (by decide +kernel) (Nat.le_of_ble_eq_true rfl) (fun X hX O hK hi0 => ?_)
  subst hX
  obtain ⟨lim, hlim⟩ : ∃ z, z = M'.1 := ⟨_, rfl⟩
  rw [← hlim] at O hn
  replace O : OKX X cX7_back RX7 1 lim 3 := O
  have hi : True := trivial
  show WS X M 0 [(0, rf X.1 p0), (1, .int a1)] []
  replace hK : (fun (q : Int32 × MM) => RTX X (some .int) (some (.int q.1)) q.2) (r, M') := hK
  generalize (r, M') = o at h hK
  unfold f_X7_back at h
  obtain ⟨hg0, h⟩ := gd h
  refine s_iload_n (pc := 0) O dX7_back_0 rfl 1 rfl ?_
  refine s_iconst (pc := 1) O (v := 0) dX7_back_1 (by decide) ?_
  refine s_iconst (pc := 2) O (v := 1) dX7_back_2 (by decide) ?_
  obtain ⟨v1, e, h⟩ := bd h
  refine s_callSi (pc := 3) O (As := [.int a1, .int 0, .int 1]) (c_X7_in (G := X.1) e) cy_X7_in tw_660 tw_661 (by decide) rfl (Nat.le_refl _) hn rfl (Nat.le_of_ble_eq_true rfl) dX7_back_3 ?_
  refine s_if_ne (pc := 6) O (tgt := 11) dX7_back_6 (by decide) (fun c => ?_) (fun c => ?_)
  · have h := ifn c h
    refine s_aload_n (pc := 11) O dX7_back_11 rfl 0 rfl ?_
    obtain ⟨v2, e, h⟩ := bd h
    refine s_getR (pc := 12) O kc7 (k := 7) rfl tw_678 e dX7_back_12 ?_
    refine s_iload_n (pc := 15) O dX7_back_15 rfl 1 rfl ?_
    obtain ⟨v3, e, h⟩ := bd h
    refine s_aldZ (pc := 16) O e dX7_back_16 ?_
    refine s_if_ne (pc := 17) O (tgt := 23) dX7_back_17 (by decide) (fun c => ?_) (fun c => ?_)
    · have h := ifn c h
      refine s_iconst (pc := 23) O (v := 0) dX7_back_23 (by decide) ?_
      refine s_istore_n (pc := 24) O (loc' := [(2, .int 0), (0, rf X.1 p0), (1, .int a1)]) dX7_back_24 rfl (by decide) rfl ?_
      exact s_sub (pc := 25) O [1, 2, 0] rfl (l_X7_back_25 O hi hn h hK)
    · have h := ifp c h
      refine s_bipush (pc := 20) O (v := (-2)) dX7_back_20 (by decide) ?_
      cases h
      exact s_iret (pc := 22) O hK dX7_back_22
  · have h := ifp c h
    refine s_iconst (pc := 9) O (v := (-1)) dX7_back_9 (by decide) ?_
    cases h
    exact s_iret (pc := 10) O hK dX7_back_10

def f_X7_count (M : MM) (p0 : Nat) (a1 : Int32) : Option (Int32) :=
  if p0 < M.1 ∧ kd p0 = 7 then ((f_X7_in M a1 0 3).bind fun v1 => if v1 = 0 then (some ((-1))) else (if a1 = 0 then ((fR M p0 7 3).bind fun v7 => (aI M v7 0).bind fun v8 => some v8) else (if a1 = 1 then ((fR M p0 7 3).bind fun v5 => (aI M v5 1).bind fun v6 => some v6) else (if a1 = 2 then ((fR M p0 7 5).bind fun v3 => (aI M v3 0).bind fun v4 => some v4) else ((fI M p0 7 2).bind fun v2 => some v2))))) else none
theorem r_X7_count {M : MM} {p0 : Nat} {a1 : Int32} {o : Int32} (h : f_X7_count M p0 a1 = some o) : p0 < M.1 ∧ kd p0 = 7 := by
  unfold f_X7_count at h
  exact (gd h).1
theorem cy_X7_count : CallY yX7_count cX7_count 2 (some .int) 1 := ⟨by decide +kernel, tw_911, tw_47, by decide⟩
set_option maxHeartbeats 4000000 in
set_option maxRecDepth 100000 in
theorem c_X7_count {G : GG} {M : MM} {p0 : Nat} {a1 : Int32} {r : Int32} (h : f_X7_count M p0 a1 = some r) : Ct G yX7_count cX7_count 2 (some .int) 1 [rf G p0, .int a1] M (some (.int r)) M := by
  refine ct_of (by decide +kernel) (Nat.le_of_ble_eq_true rfl) (fun X hX O hK hi0 => ?_)
  subst hX
  obtain ⟨lim, hlim⟩ : ∃ z, z = M.1 := ⟨_, rfl⟩
  rw [← hlim] at O
  replace O : OKX X cX7_count RX7 1 lim 2 := O
  have hi : True := trivial
  have hn : M.1 ≤ lim := Nat.le_of_eq hlim.symm
  show WS X M 0 [(0, rf X.1 p0), (1, .int a1)] []
  unfold f_X7_count at h
  obtain ⟨hg0, h⟩ := gd h
  refine s_iload_n (pc := 0) O dX7_count_0 rfl 1 rfl ?_
  refine s_iconst (pc := 1) O (v := 0) dX7_count_1 (by decide) ?_
  refine s_iconst (pc := 2) O (v := 3) dX7_count_2 (by decide) ?_
  obtain ⟨v1, e, h⟩ := bd h
  refine s_callSi (pc := 3) O (As := [.int a1, .int 0, .int 3]) (c_X7_in (G := X.1) e) cy_X7_in tw_660 tw_661 (by decide) rfl (Nat.le_refl _) hn rfl (Nat.le_of_ble_eq_true rfl) dX7_count_3 ?_
  refine s_if_ne (pc := 6) O (tgt := 11) dX7_count_6 (by decide) (fun c => ?_) (fun c => ?_)
  · have h := ifn c h
    refine s_iload_n (pc := 11) O dX7_count_11 rfl 1 rfl ?_
    refine s_if_ne (pc := 12) O (tgt := 24) dX7_count_12 (by decide) (fun c => ?_) (fun c => ?_)
    · have h := ifn c h
      refine s_iload_n (pc := 24) O dX7_count_24 rfl 1 rfl ?_
      refine s_iconst (pc := 25) O (v := 1) dX7_count_25 (by decide) ?_
      refine s_icmp_ne (pc := 26) O (tgt := 38) dX7_count_26 (by decide) (fun c => ?_) (fun c => ?_)
      · have h := ifn c h
        refine s_iload_n (pc := 38) O dX7_count_38 rfl 1 rfl ?_
        refine s_iconst (pc := 39) O (v := 2) dX7_count_39 (by decide) ?_
        refine s_icmp_ne (pc := 40) O (tgt := 52) dX7_count_40 (by decide) (fun c => ?_) (fun c => ?_)
        · have h := ifn c h
          refine s_aload_n (pc := 52) O dX7_count_52 rfl 0 rfl ?_
          obtain ⟨v2, e, h⟩ := bd h
          refine s_getI (pc := 53) O kc7 (k := 2) rfl tw_673 e dX7_count_53 ?_
          cases h
          exact s_iret (pc := 56) O hK dX7_count_56
        · have h := ifp c h
          refine s_aload_n (pc := 43) O dX7_count_43 rfl 0 rfl ?_
          obtain ⟨v3, e, h⟩ := bd h
          refine s_getR (pc := 44) O kc7 (k := 5) rfl tw_676 e dX7_count_44 ?_
          refine s_iconst (pc := 47) O (v := 0) dX7_count_47 (by decide) ?_
          obtain ⟨v4, e, h⟩ := bd h
          refine s_aldI (pc := 48) O e dX7_count_48 ?_
          refine s_goto (pc := 49) O (tgt := 56) dX7_count_49 (by decide) ?_
          cases h
          exact s_iret (pc := 56) O hK dX7_count_56
      · have h := ifp c h
        refine s_aload_n (pc := 29) O dX7_count_29 rfl 0 rfl ?_
        obtain ⟨v5, e, h⟩ := bd h
        refine s_getR (pc := 30) O kc7 (k := 3) rfl tw_674 e dX7_count_30 ?_
        refine s_iconst (pc := 33) O (v := 1) dX7_count_33 (by decide) ?_
        obtain ⟨v6, e, h⟩ := bd h
        refine s_aldI (pc := 34) O e dX7_count_34 ?_
        refine s_goto (pc := 35) O (tgt := 56) dX7_count_35 (by decide) ?_
        cases h
        exact s_iret (pc := 56) O hK dX7_count_56
    · have h := ifp c h
      refine s_aload_n (pc := 15) O dX7_count_15 rfl 0 rfl ?_
      obtain ⟨v7, e, h⟩ := bd h
      refine s_getR (pc := 16) O kc7 (k := 3) rfl tw_674 e dX7_count_16 ?_
      refine s_iconst (pc := 19) O (v := 0) dX7_count_19 (by decide) ?_
      obtain ⟨v8, e, h⟩ := bd h
      refine s_aldI (pc := 20) O e dX7_count_20 ?_
      refine s_goto (pc := 21) O (tgt := 56) dX7_count_21 (by decide) ?_
      cases h
      exact s_iret (pc := 56) O hK dX7_count_56
  · have h := ifp c h
    refine s_iconst (pc := 9) O (v := (-1)) dX7_count_9 (by decide) ?_
    cases h
    exact s_iret (pc := 10) O hK dX7_count_10

def f_X7_figure (M : MM) (p0 : Nat) (a1 : Int32) : Option (Int32) :=
  if p0 < M.1 ∧ kd p0 = 7 then ((fI M p0 7 15).bind fun v1 => (f_X7_byteAt M p0 v1).bind fun v2 => (fI M p0 7 14).bind fun v3 => if v3 = 2 then ((fI M p0 7 16).bind fun v4 => if v4 = 1 then (if a1 < (v2 - 48) then (some ((-9))) else (some ((v2 - 48)))) else (some ((-9)))) else (some ((-9)))) else none
theorem r_X7_figure {M : MM} {p0 : Nat} {a1 : Int32} {o : Int32} (h : f_X7_figure M p0 a1 = some o) : p0 < M.1 ∧ kd p0 = 7 := by
  unfold f_X7_figure at h
  exact (gd h).1
theorem cy_X7_figure : CallY yX7_figure cX7_figure 3 (some .int) 1 := ⟨by decide +kernel, tw_776, tw_47, by decide⟩
set_option maxHeartbeats 4000000 in
set_option maxRecDepth 100000 in
theorem c_X7_figure {G : GG} {M : MM} {p0 : Nat} {a1 : Int32} {r : Int32} (h : f_X7_figure M p0 a1 = some r) : Ct G yX7_figure cX7_figure 3 (some .int) 1 [rf G p0, .int a1] M (some (.int r)) M := by
  refine ct_of (by decide +kernel) (Nat.le_of_ble_eq_true rfl) (fun X hX O hK hi0 => ?_)
  subst hX
  obtain ⟨lim, hlim⟩ : ∃ z, z = M.1 := ⟨_, rfl⟩
  rw [← hlim] at O
  replace O : OKX X cX7_figure RX7 1 lim 3 := O
  have hi : True := trivial
  have hn : M.1 ≤ lim := Nat.le_of_eq hlim.symm
  show WS X M 0 [(0, rf X.1 p0), (1, .int a1)] []
  unfold f_X7_figure at h
  obtain ⟨hg0, h⟩ := gd h
  refine s_aload_n (pc := 0) O dX7_figure_0 rfl 0 rfl ?_
  refine s_aload_n (pc := 1) O dX7_figure_1 rfl 0 rfl ?_
  obtain ⟨v1, e, h⟩ := bd h
  refine s_getI (pc := 2) O kc7 (k := 15) rfl tw_686 e dX7_figure_2 ?_
  obtain ⟨v2, e, h⟩ := bd h
  refine s_callVi (pc := 5) O (As := [.int v1]) kc7 (c_X7_byteAt (G := X.1) e) cy_X7_byteAt tw_747 tw_749 tw_25 (by decide) rfl (Nat.le_refl _) hn (r_X7_byteAt e).1 (r_X7_byteAt e).2 rfl (Nat.le_of_ble_eq_true rfl) dX7_figure_5 ?_
  refine s_bipush (pc := 8) O (v := 48) dX7_figure_8 (by decide) ?_
  refine s_isub (pc := 10) O dX7_figure_10 ?_
  refine s_istore_n (pc := 11) O (loc' := [(2, .int (v2 - 48)), (0, rf X.1 p0), (1, .int a1)]) dX7_figure_11 rfl (by decide) rfl ?_
  refine s_aload_n (pc := 12) O dX7_figure_12 rfl 1 rfl ?_
  obtain ⟨v3, e, h⟩ := bd h
  refine s_getI (pc := 13) O kc7 (k := 14) rfl tw_685 e dX7_figure_13 ?_
  refine s_iconst (pc := 16) O (v := 2) dX7_figure_16 (by decide) ?_
  refine s_icmp_ne (pc := 17) O (tgt := 37) dX7_figure_17 (by decide) (fun c => ?_) (fun c => ?_)
  · have h := ifn c h
    refine s_bipush (pc := 37) O (v := (-9)) dX7_figure_37 (by decide) ?_
    cases h
    exact s_iret (pc := 39) O hK dX7_figure_39
  · have h := ifp c h
    refine s_aload_n (pc := 20) O dX7_figure_20 rfl 1 rfl ?_
    obtain ⟨v4, e, h⟩ := bd h
    refine s_getI (pc := 21) O kc7 (k := 16) rfl tw_687 e dX7_figure_21 ?_
    refine s_iconst (pc := 24) O (v := 1) dX7_figure_24 (by decide) ?_
    refine s_icmp_ne (pc := 25) O (tgt := 37) dX7_figure_25 (by decide) (fun c => ?_) (fun c => ?_)
    · have h := ifn c h
      refine s_bipush (pc := 37) O (v := (-9)) dX7_figure_37 (by decide) ?_
      cases h
      exact s_iret (pc := 39) O hK dX7_figure_39
    · have h := ifp c h
      refine s_iload_n (pc := 28) O dX7_figure_28 rfl 0 rfl ?_
      refine s_iload_n (pc := 29) O dX7_figure_29 rfl 2 rfl ?_
      refine s_icmp_gt (pc := 30) O (tgt := 37) dX7_figure_30 (by decide) (fun c => ?_) (fun c => ?_)
      · have h := ifp c h
        refine s_bipush (pc := 37) O (v := (-9)) dX7_figure_37 (by decide) ?_
        cases h
        exact s_iret (pc := 39) O hK dX7_figure_39
      · have h := ifn c h
        refine s_iload_n (pc := 33) O dX7_figure_33 rfl 0 rfl ?_
        refine s_goto (pc := 34) O (tgt := 39) dX7_figure_34 (by decide) ?_
        cases h
        exact s_iret (pc := 39) O hK dX7_figure_39

def j_X7_has_22 (M : MM) : Option (Int32) :=
  some ((-1))
set_option maxHeartbeats 4000000 in
set_option maxRecDepth 100000 in
theorem g_X7_has_22 {X : CT} {lim : Nat} {M : MM} (O : OKX X cX7_has RX7 1 lim 4) (hi : True) (hn : M.1 ≤ lim) {o : Int32} (h : j_X7_has_22 M = some o) (hK : (fun (q : Int32) => RTX X (some .int) (some (.int q)) M) o) : WS X M 22 [] [] := by
  unfold j_X7_has_22 at h
  refine s_iconst (pc := 22) O (v := (-1)) dX7_has_22 (by decide) ?_
  refine s_goto (pc := 23) O (tgt := 36) dX7_has_23 (by decide) ?_
  cases h
  exact s_iret (pc := 36) O hK dX7_has_36
def f_X7_has (M : MM) (p0 : Nat) (a1 : Int32) (a2 : Int32) : Option (Int32) :=
  if p0 < M.1 ∧ kd p0 = 7 then ((f_X7_placeOf M p0 a1).bind fun v1 => if v1 = (-9) then (j_X7_has_22 M) else ((f_X7_in M a2 0 7).bind fun v2 => if v2 = 0 then (j_X7_has_22 M) else ((fR M p0 7 9).bind fun v3 => (aI M v3 v1).bind fun v4 => (f_X7_countOf M v4 a2).bind fun v5 => some v5))) else none
theorem r_X7_has {M : MM} {p0 : Nat} {a1 : Int32} {a2 : Int32} {o : Int32} (h : f_X7_has M p0 a1 a2 = some o) : p0 < M.1 ∧ kd p0 = 7 := by
  unfold f_X7_has at h
  exact (gd h).1
theorem cy_X7_has : CallY yX7_has cX7_has 4 (some .int) 2 := ⟨by decide +kernel, tw_811, tw_47, by decide⟩
set_option maxHeartbeats 4000000 in
set_option maxRecDepth 100000 in
theorem c_X7_has {G : GG} {M : MM} {p0 : Nat} {a1 : Int32} {a2 : Int32} {r : Int32} (h : f_X7_has M p0 a1 a2 = some r) : Ct G yX7_has cX7_has 4 (some .int) 1 [rf G p0, .int a1, .int a2] M (some (.int r)) M := by
  refine ct_of (by decide +kernel) (Nat.le_of_ble_eq_true rfl) (fun X hX O hK hi0 => ?_)
  subst hX
  obtain ⟨lim, hlim⟩ : ∃ z, z = M.1 := ⟨_, rfl⟩
  rw [← hlim] at O
  replace O : OKX X cX7_has RX7 1 lim 4 := O
  have hi : True := trivial
  have hn : M.1 ≤ lim := Nat.le_of_eq hlim.symm
  show WS X M 0 [(0, rf X.1 p0), (1, .int a1), (2, .int a2)] []
  unfold f_X7_has at h
  obtain ⟨hg0, h⟩ := gd h
  refine s_aload_n (pc := 0) O dX7_has_0 rfl 0 rfl ?_
  refine s_iload_n (pc := 1) O dX7_has_1 rfl 1 rfl ?_
  obtain ⟨v1, e, h⟩ := bd h
  refine s_callVi (pc := 2) O (As := [.int a1]) kc7 (c_X7_placeOf (G := X.1) e) cy_X7_placeOf tw_801 tw_803 tw_33 (by decide) rfl (Nat.le_refl _) hn (r_X7_placeOf e).1 (r_X7_placeOf e).2 rfl (Nat.le_of_ble_eq_true rfl) dX7_has_2 ?_
  refine s_istore_n (pc := 5) O (loc' := [(3, .int v1), (0, rf X.1 p0), (1, .int a1), (2, .int a2)]) dX7_has_5 rfl (by decide) rfl ?_
  refine s_iload_n (pc := 6) O dX7_has_6 rfl 0 rfl ?_
  refine s_bipush (pc := 7) O (v := (-9)) dX7_has_7 (by decide) ?_
  refine s_icmp_eq (pc := 9) O (tgt := 22) dX7_has_9 (by decide) (fun c => ?_) (fun c => ?_)
  · have h := ifp c h
    exact s_sub (pc := 22) O [] rfl (g_X7_has_22 O hi hn h hK)
  · have h := ifn c h
    refine s_iload_n (pc := 12) O dX7_has_12 rfl 3 rfl ?_
    refine s_iconst (pc := 13) O (v := 0) dX7_has_13 (by decide) ?_
    refine s_bipush (pc := 14) O (v := 7) dX7_has_14 (by decide) ?_
    obtain ⟨v2, e, h⟩ := bd h
    refine s_callSi (pc := 16) O (As := [.int a2, .int 0, .int 7]) (c_X7_in (G := X.1) e) cy_X7_in tw_660 tw_661 (by decide) rfl (Nat.le_refl _) hn rfl (Nat.le_of_ble_eq_true rfl) dX7_has_16 ?_
    refine s_if_ne (pc := 19) O (tgt := 26) dX7_has_19 (by decide) (fun c => ?_) (fun c => ?_)
    · have h := ifn c h
      refine s_aload_n (pc := 26) O dX7_has_26 rfl 1 rfl ?_
      obtain ⟨v3, e, h⟩ := bd h
      refine s_getR (pc := 27) O kc7 (k := 9) rfl tw_680 e dX7_has_27 ?_
      refine s_iload_n (pc := 30) O dX7_has_30 rfl 0 rfl ?_
      obtain ⟨v4, e, h⟩ := bd h
      refine s_aldI (pc := 31) O e dX7_has_31 ?_
      refine s_iload_n (pc := 32) O dX7_has_32 rfl 3 rfl ?_
      obtain ⟨v5, e, h⟩ := bd h
      refine s_callSi (pc := 33) O (As := [.int v4, .int a2]) (c_X7_countOf (G := X.1) e) cy_X7_countOf tw_805 tw_806 (by decide) rfl (Nat.le_refl _) hn rfl (Nat.le_of_ble_eq_true rfl) dX7_has_33 ?_
      cases h
      exact s_iret (pc := 36) O hK dX7_has_36
    · have h := ifp c h
      exact s_sub (pc := 22) O [] rfl (g_X7_has_22 O hi hn h hK)

def f_X7_isShape (M : MM) (p0 : Nat) (a1 : Int32) : Option (Int32) :=
  if p0 < M.1 ∧ kd p0 = 7 then ((fR M p0 7 3).bind fun v1 => (aI M v1 1).bind fun v2 => (f_X7_in M a1 0 ((v2 - 1))).bind fun v3 => if v3 = 0 ∨ v3 = 1 then (some v3) else none) else none
theorem r_X7_isShape {M : MM} {p0 : Nat} {a1 : Int32} {o : Int32} (h : f_X7_isShape M p0 a1 = some o) : p0 < M.1 ∧ kd p0 = 7 := by
  unfold f_X7_isShape at h
  exact (gd h).1
theorem cy_X7_isShape : CallY yX7_isShape cX7_isShape 2 (some .boolean) 1 := ⟨by decide +kernel, tw_796, tw_47, by decide⟩
set_option maxHeartbeats 4000000 in
set_option maxRecDepth 100000 in
theorem c_X7_isShape {G : GG} {M : MM} {p0 : Nat} {a1 : Int32} {r : Int32} (h : f_X7_isShape M p0 a1 = some r) : Ct G yX7_isShape cX7_isShape 2 (some .boolean) 1 [rf G p0, .int a1] M (some (.int r)) M := by
  refine ct_of (by decide +kernel) (Nat.le_of_ble_eq_true rfl) (fun X hX O hK hi0 => ?_)
  subst hX
  obtain ⟨lim, hlim⟩ : ∃ z, z = M.1 := ⟨_, rfl⟩
  rw [← hlim] at O
  replace O : OKX X cX7_isShape RX7 1 lim 2 := O
  have hi : True := trivial
  have hn : M.1 ≤ lim := Nat.le_of_eq hlim.symm
  show WS X M 0 [(0, rf X.1 p0), (1, .int a1)] []
  unfold f_X7_isShape at h
  obtain ⟨hg0, h⟩ := gd h
  refine s_iload_n (pc := 0) O dX7_isShape_0 rfl 1 rfl ?_
  refine s_iconst (pc := 1) O (v := 0) dX7_isShape_1 (by decide) ?_
  refine s_aload_n (pc := 2) O dX7_isShape_2 rfl 0 rfl ?_
  obtain ⟨v1, e, h⟩ := bd h
  refine s_getR (pc := 3) O kc7 (k := 3) rfl tw_674 e dX7_isShape_3 ?_
  refine s_iconst (pc := 6) O (v := 1) dX7_isShape_6 (by decide) ?_
  obtain ⟨v2, e, h⟩ := bd h
  refine s_aldI (pc := 7) O e dX7_isShape_7 ?_
  refine s_iconst (pc := 8) O (v := 1) dX7_isShape_8 (by decide) ?_
  refine s_isub (pc := 9) O dX7_isShape_9 ?_
  obtain ⟨v3, e, h⟩ := bd h
  refine s_callSi (pc := 10) O (As := [.int a1, .int 0, .int (v2 - 1)]) (c_X7_in (G := X.1) e) cy_X7_in tw_660 tw_661 (by decide) rfl (Nat.le_refl _) hn rfl (Nat.le_of_ble_eq_true rfl) dX7_isShape_10 ?_
  obtain ⟨hz, h⟩ := gd h
  cases h
  exact s_zret (pc := 13) O hz hK dX7_isShape_13

def f_X7_isWord (M : MM) (p0 : Nat) (a1 : Int32) : Option (Int32) :=
  if p0 < M.1 ∧ kd p0 = 7 then ((fR M p0 7 3).bind fun v1 => (aI M v1 0).bind fun v2 => (f_X7_in M a1 0 ((v2 - 1))).bind fun v3 => if v3 = 0 ∨ v3 = 1 then (some v3) else none) else none
theorem r_X7_isWord {M : MM} {p0 : Nat} {a1 : Int32} {o : Int32} (h : f_X7_isWord M p0 a1 = some o) : p0 < M.1 ∧ kd p0 = 7 := by
  unfold f_X7_isWord at h
  exact (gd h).1
theorem cy_X7_isWord : CallY yX7_isWord cX7_isWord 2 (some .boolean) 1 := ⟨by decide +kernel, tw_659, tw_47, by decide⟩
set_option maxHeartbeats 4000000 in
set_option maxRecDepth 100000 in
theorem c_X7_isWord {G : GG} {M : MM} {p0 : Nat} {a1 : Int32} {r : Int32} (h : f_X7_isWord M p0 a1 = some r) : Ct G yX7_isWord cX7_isWord 2 (some .boolean) 1 [rf G p0, .int a1] M (some (.int r)) M := by
  refine ct_of (by decide +kernel) (Nat.le_of_ble_eq_true rfl) (fun X hX O hK hi0 => ?_)
  subst hX
  obtain ⟨lim, hlim⟩ : ∃ z, z = M.1 := ⟨_, rfl⟩
  rw [← hlim] at O
  replace O : OKX X cX7_isWord RX7 1 lim 2 := O
  have hi : True := trivial
  have hn : M.1 ≤ lim := Nat.le_of_eq hlim.symm
  show WS X M 0 [(0, rf X.1 p0), (1, .int a1)] []
  unfold f_X7_isWord at h
  obtain ⟨hg0, h⟩ := gd h
  refine s_iload_n (pc := 0) O dX7_isWord_0 rfl 1 rfl ?_
  refine s_iconst (pc := 1) O (v := 0) dX7_isWord_1 (by decide) ?_
  refine s_aload_n (pc := 2) O dX7_isWord_2 rfl 0 rfl ?_
  obtain ⟨v1, e, h⟩ := bd h
  refine s_getR (pc := 3) O kc7 (k := 3) rfl tw_674 e dX7_isWord_3 ?_
  refine s_iconst (pc := 6) O (v := 0) dX7_isWord_6 (by decide) ?_
  obtain ⟨v2, e, h⟩ := bd h
  refine s_aldI (pc := 7) O e dX7_isWord_7 ?_
  refine s_iconst (pc := 8) O (v := 1) dX7_isWord_8 (by decide) ?_
  refine s_isub (pc := 9) O dX7_isWord_9 ?_
  obtain ⟨v3, e, h⟩ := bd h
  refine s_callSi (pc := 10) O (As := [.int a1, .int 0, .int (v2 - 1)]) (c_X7_in (G := X.1) e) cy_X7_in tw_660 tw_661 (by decide) rfl (Nat.le_refl _) hn rfl (Nat.le_of_ble_eq_true rfl) dX7_isWord_10 ?_
  obtain ⟨hz, h⟩ := gd h
  cases h
  exact s_zret (pc := 13) O hz hK dX7_isWord_13

def z_X7_keep_13 (M : MM) (p0 : Nat) (a1 : Int32) (a2 : Int32) : Option ((Int32 × MM) ⊕ (Int32 × MM)) :=
  if (13 : Int32) ≤ a2 then (((fR M p0 7 7).bind fun v1 => (waZ M v1 a1 1).bind fun M2 => (fR M2 p0 7 5).bind fun v3 => (aI M2 v3 0).bind fun v4 => some ((v4, M2))).map .inl) else ((fR M p0 7 6).bind fun v5 => (fR M p0 7 5).bind fun v6 => (aI M v6 a2).bind fun v7 => (waI M v5 (((13 * a1) + a2)) v7).bind fun M8 => some ((.inr ((a2 + 1), M8))))
set_option maxHeartbeats 4000000 in
set_option maxRecDepth 100000 in
theorem b_X7_keep_13 {X : CT} {lim : Nat} {M : MM} {p0 : Nat} {a1 : Int32} {a2 : Int32} (O : OKX X cX7_keep RX7 1 lim 3) (hi : True) (hn : M.1 ≤ lim) {o : (Int32 × MM) ⊕ (Int32 × MM)} (h : z_X7_keep_13 M p0 a1 a2 = some o) (hK : (KI (fun (q : Int32 × MM) => RTX X (some .int) (some (.int q.1)) q.2) (fun (t : Int32 × MM) => t.2.1 ≤ lim → WS X t.2 13 [(0, rf X.1 p0), (1, .int a1), (2, .int t.1)] [])) o) : WS X M 13 [(0, rf X.1 p0), (1, .int a1), (2, .int a2)] [] := by
  unfold z_X7_keep_13 at h
  refine s_iload_n (pc := 13) O dX7_keep_13 rfl 2 rfl ?_
  refine s_bipush (pc := 14) O (v := 13) dX7_keep_14 (by decide) ?_
  refine s_icmp_ge (pc := 16) O (tgt := 42) dX7_keep_16 (by decide) (fun c => ?_) (fun c => ?_)
  · have h := ifp c h
    obtain ⟨q0, hq0, ho0⟩ := mpi h; subst ho0; replace h := hq0
    refine s_aload_n (pc := 42) O dX7_keep_42 rfl 0 rfl ?_
    obtain ⟨v1, e, h⟩ := bd h
    refine s_getR (pc := 43) O kc7 (k := 7) rfl tw_678 e dX7_keep_43 ?_
    refine s_iload_n (pc := 46) O dX7_keep_46 rfl 1 rfl ?_
    refine s_iconst (pc := 47) O (v := 1) dX7_keep_47 (by decide) ?_
    obtain ⟨M2, e, h⟩ := bd h
    refine s_astZ (pc := 48) O e dX7_keep_48 ?_
    have hn : M2.1 ≤ lim := by rw [waZ_n e]; exact hn
    refine s_aload_n (pc := 49) O dX7_keep_49 rfl 0 rfl ?_
    obtain ⟨v3, e, h⟩ := bd h
    refine s_getR (pc := 50) O kc7 (k := 5) rfl tw_676 e dX7_keep_50 ?_
    refine s_iconst (pc := 53) O (v := 0) dX7_keep_53 (by decide) ?_
    obtain ⟨v4, e, h⟩ := bd h
    refine s_aldI (pc := 54) O e dX7_keep_54 ?_
    cases h
    exact s_iret (pc := 55) O hK dX7_keep_55
  · have h := ifn c h
    refine s_aload_n (pc := 19) O dX7_keep_19 rfl 0 rfl ?_
    obtain ⟨v5, e, h⟩ := bd h
    refine s_getR (pc := 20) O kc7 (k := 6) rfl tw_677 e dX7_keep_20 ?_
    refine s_bipush (pc := 23) O (v := 13) dX7_keep_23 (by decide) ?_
    refine s_iload_n (pc := 25) O dX7_keep_25 rfl 1 rfl ?_
    refine s_imul (pc := 26) O dX7_keep_26 ?_
    refine s_iload_n (pc := 27) O dX7_keep_27 rfl 2 rfl ?_
    refine s_iadd (pc := 28) O dX7_keep_28 ?_
    refine s_aload_n (pc := 29) O dX7_keep_29 rfl 0 rfl ?_
    obtain ⟨v6, e, h⟩ := bd h
    refine s_getR (pc := 30) O kc7 (k := 5) rfl tw_676 e dX7_keep_30 ?_
    refine s_iload_n (pc := 33) O dX7_keep_33 rfl 2 rfl ?_
    obtain ⟨v7, e, h⟩ := bd h
    refine s_aldI (pc := 34) O e dX7_keep_34 ?_
    obtain ⟨M8, e, h⟩ := bd h
    refine s_astI (pc := 35) O e dX7_keep_35 ?_
    have hn : M8.1 ≤ lim := by rw [waI_n e]; exact hn
    refine s_iinc (pc := 36) O (v := (a2 + 1)) (loc' := [(2, .int (a2 + 1)), (0, rf X.1 p0), (1, .int a1)]) dX7_keep_36 2 rfl rfl (by decide) rfl ?_
    refine s_goto (pc := 39) O (tgt := 13) dX7_keep_39 (by decide) ?_
    cases h
    exact s_sub (pc := 13) O [1, 2, 0] rfl (hK hn)
set_option maxHeartbeats 4000000 in
set_option maxRecDepth 100000 in
theorem l_X7_keep_13 {X : CT} {lim : Nat} {M : MM} {p0 : Nat} {a1 : Int32} {a2 : Int32} (O : OKX X cX7_keep RX7 1 lim 3) (hi : True) (hn : M.1 ≤ lim) {o : Int32 × MM} {n : Nat} (h : lp (fun t => z_X7_keep_13 t.2 p0 a1 t.1) n (a2, M) = some o) (hK : (fun (q : Int32 × MM) => RTX X (some .int) (some (.int q.1)) q.2) o) : WS X M 13 [(0, rf X.1 p0), (1, .int a1), (2, .int a2)] [] := by
  refine lp_ind (P := fun (o : Int32 × MM) (t : Int32 × MM) => t.2.1 ≤ lim → (fun (q : Int32 × MM) => RTX X (some .int) (some (.int q.1)) q.2) o → WS X t.2 13 [(0, rf X.1 p0), (1, .int a1), (2, .int t.1)] []) (fun t o hs hn hK => ?_) n (a2, M) o h hn hK
  rcases hs with h | ⟨u, h, hu⟩
  · exact b_X7_keep_13 O hi hn h hK
  · exact b_X7_keep_13 O hi hn h (show KI _ _ (.inr u) from fun hn => hu hn hK)
def f_X7_keep (M : MM) (p0 : Nat) (a1 : Int32) : Option (Int32 × MM) :=
  if p0 < M.1 ∧ kd p0 = 7 then ((f_X7_in M a1 0 1).bind fun v1 => if v1 = 0 then (some (((-1), M))) else (lp (fun t => z_X7_keep_13 t.2 p0 a1 t.1) FU (0, M))) else none
theorem r_X7_keep {M : MM} {p0 : Nat} {a1 : Int32} {o : Int32 × MM} (h : f_X7_keep M p0 a1 = some o) : p0 < M.1 ∧ kd p0 = 7 := by
  unfold f_X7_keep at h
  exact (gd h).1
theorem cy_X7_keep : CallY yX7_keep cX7_keep 3 (some .int) 1 := ⟨by decide +kernel, tw_903, tw_47, by decide⟩
set_option maxHeartbeats 4000000 in
set_option maxRecDepth 100000 in
theorem c_X7_keep {G : GG} {M : MM} {p0 : Nat} {a1 : Int32} {r : Int32} {M' : MM} (h : f_X7_keep M p0 a1 = some (r, M')) (hn : M.1 ≤ M'.1) : Ct G yX7_keep cX7_keep 3 (some .int) 1 [rf G p0, .int a1] M (some (.int r)) M' := by
  refine ct_of (by decide +kernel) (Nat.le_of_ble_eq_true rfl) (fun X hX O hK hi0 => ?_)
  subst hX
  obtain ⟨lim, hlim⟩ : ∃ z, z = M'.1 := ⟨_, rfl⟩
  rw [← hlim] at O hn
  replace O : OKX X cX7_keep RX7 1 lim 3 := O
  have hi : True := trivial
  show WS X M 0 [(0, rf X.1 p0), (1, .int a1)] []
  replace hK : (fun (q : Int32 × MM) => RTX X (some .int) (some (.int q.1)) q.2) (r, M') := hK
  generalize (r, M') = o at h hK
  unfold f_X7_keep at h
  obtain ⟨hg0, h⟩ := gd h
  refine s_iload_n (pc := 0) O dX7_keep_0 rfl 1 rfl ?_
  refine s_iconst (pc := 1) O (v := 0) dX7_keep_1 (by decide) ?_
  refine s_iconst (pc := 2) O (v := 1) dX7_keep_2 (by decide) ?_
  obtain ⟨v1, e, h⟩ := bd h
  refine s_callSi (pc := 3) O (As := [.int a1, .int 0, .int 1]) (c_X7_in (G := X.1) e) cy_X7_in tw_660 tw_661 (by decide) rfl (Nat.le_refl _) hn rfl (Nat.le_of_ble_eq_true rfl) dX7_keep_3 ?_
  refine s_if_ne (pc := 6) O (tgt := 11) dX7_keep_6 (by decide) (fun c => ?_) (fun c => ?_)
  · have h := ifn c h
    refine s_iconst (pc := 11) O (v := 0) dX7_keep_11 (by decide) ?_
    refine s_istore_n (pc := 12) O (loc' := [(2, .int 0), (0, rf X.1 p0), (1, .int a1)]) dX7_keep_12 rfl (by decide) rfl ?_
    exact s_sub (pc := 13) O [1, 2, 0] rfl (l_X7_keep_13 O hi hn h hK)
  · have h := ifp c h
    refine s_iconst (pc := 9) O (v := (-1)) dX7_keep_9 (by decide) ?_
    cases h
    exact s_iret (pc := 10) O hK dX7_keep_10

