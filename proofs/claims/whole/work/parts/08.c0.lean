def f_J6_bitCount_0f7a4 (M : MM) (a0 : Int32) : Option (Int32) :=
  some (((((((((a0 - ((((a0 : Int32).toUInt32 >>> ((1 : Int32).toUInt32 &&& Int32.toUInt32 31)).toInt32) &&& 1431655765)) &&& 858993459) + (((((a0 - ((((a0 : Int32).toUInt32 >>> ((1 : Int32).toUInt32 &&& Int32.toUInt32 31)).toInt32) &&& 1431655765)) : Int32).toUInt32 >>> ((2 : Int32).toUInt32 &&& Int32.toUInt32 31)).toInt32) &&& 858993459)) + ((((((a0 - ((((a0 : Int32).toUInt32 >>> ((1 : Int32).toUInt32 &&& Int32.toUInt32 31)).toInt32) &&& 1431655765)) &&& 858993459) + (((((a0 - ((((a0 : Int32).toUInt32 >>> ((1 : Int32).toUInt32 &&& Int32.toUInt32 31)).toInt32) &&& 1431655765)) : Int32).toUInt32 >>> ((2 : Int32).toUInt32 &&& Int32.toUInt32 31)).toInt32) &&& 858993459)) : Int32).toUInt32 >>> ((4 : Int32).toUInt32 &&& Int32.toUInt32 31)).toInt32)) &&& 252645135) + ((((((((a0 - ((((a0 : Int32).toUInt32 >>> ((1 : Int32).toUInt32 &&& Int32.toUInt32 31)).toInt32) &&& 1431655765)) &&& 858993459) + (((((a0 - ((((a0 : Int32).toUInt32 >>> ((1 : Int32).toUInt32 &&& Int32.toUInt32 31)).toInt32) &&& 1431655765)) : Int32).toUInt32 >>> ((2 : Int32).toUInt32 &&& Int32.toUInt32 31)).toInt32) &&& 858993459)) + ((((((a0 - ((((a0 : Int32).toUInt32 >>> ((1 : Int32).toUInt32 &&& Int32.toUInt32 31)).toInt32) &&& 1431655765)) &&& 858993459) + (((((a0 - ((((a0 : Int32).toUInt32 >>> ((1 : Int32).toUInt32 &&& Int32.toUInt32 31)).toInt32) &&& 1431655765)) : Int32).toUInt32 >>> ((2 : Int32).toUInt32 &&& Int32.toUInt32 31)).toInt32) &&& 858993459)) : Int32).toUInt32 >>> ((4 : Int32).toUInt32 &&& Int32.toUInt32 31)).toInt32)) &&& 252645135) : Int32).toUInt32 >>> ((8 : Int32).toUInt32 &&& Int32.toUInt32 31)).toInt32)) + (((((((((a0 - ((((a0 : Int32).toUInt32 >>> ((1 : Int32).toUInt32 &&& Int32.toUInt32 31)).toInt32) &&& 1431655765)) &&& 858993459) + (((((a0 - ((((a0 : Int32).toUInt32 >>> ((1 : Int32).toUInt32 &&& Int32.toUInt32 31)).toInt32) &&& 1431655765)) : Int32).toUInt32 >>> ((2 : Int32).toUInt32 &&& Int32.toUInt32 31)).toInt32) &&& 858993459)) + ((((((a0 - ((((a0 : Int32).toUInt32 >>> ((1 : Int32).toUInt32 &&& Int32.toUInt32 31)).toInt32) &&& 1431655765)) &&& 858993459) + (((((a0 - ((((a0 : Int32).toUInt32 >>> ((1 : Int32).toUInt32 &&& Int32.toUInt32 31)).toInt32) &&& 1431655765)) : Int32).toUInt32 >>> ((2 : Int32).toUInt32 &&& Int32.toUInt32 31)).toInt32) &&& 858993459)) : Int32).toUInt32 >>> ((4 : Int32).toUInt32 &&& Int32.toUInt32 31)).toInt32)) &&& 252645135) + ((((((((a0 - ((((a0 : Int32).toUInt32 >>> ((1 : Int32).toUInt32 &&& Int32.toUInt32 31)).toInt32) &&& 1431655765)) &&& 858993459) + (((((a0 - ((((a0 : Int32).toUInt32 >>> ((1 : Int32).toUInt32 &&& Int32.toUInt32 31)).toInt32) &&& 1431655765)) : Int32).toUInt32 >>> ((2 : Int32).toUInt32 &&& Int32.toUInt32 31)).toInt32) &&& 858993459)) + ((((((a0 - ((((a0 : Int32).toUInt32 >>> ((1 : Int32).toUInt32 &&& Int32.toUInt32 31)).toInt32) &&& 1431655765)) &&& 858993459) + (((((a0 - ((((a0 : Int32).toUInt32 >>> ((1 : Int32).toUInt32 &&& Int32.toUInt32 31)).toInt32) &&& 1431655765)) : Int32).toUInt32 >>> ((2 : Int32).toUInt32 &&& Int32.toUInt32 31)).toInt32) &&& 858993459)) : Int32).toUInt32 >>> ((4 : Int32).toUInt32 &&& Int32.toUInt32 31)).toInt32)) &&& 252645135) : Int32).toUInt32 >>> ((8 : Int32).toUInt32 &&& Int32.toUInt32 31)).toInt32)) : Int32).toUInt32 >>> ((16 : Int32).toUInt32 &&& Int32.toUInt32 31)).toInt32)) &&& 63))
theorem cy_J6_bitCount_0f7a4 : CallY yJ6_bitCount_0f7a4 cJ6_bitCount_0f7a4 1 (some .int) 1 := ⟨by decide +kernel, tw_559, tw_53, by decide⟩
set_option maxHeartbeats 4000000 in
set_option maxRecDepth 100000 in
theorem c_J6_bitCount_0f7a4 {G : GG} {M : MM} {a0 : Int32} {r : Int32} (h : f_J6_bitCount_0f7a4 M a0 = some r) : Ct G yJ6_bitCount_0f7a4 cJ6_bitCount_0f7a4 1 (some .int) 0 [.int a0] M (some (.int r)) M := by
  refine ct_of (by decide +kernel) (Nat.le_of_ble_eq_true rfl) (fun X hX O hK hi0 => ?_)
  subst hX
  obtain ⟨lim, hlim⟩ : ∃ z, z = M.1 := ⟨_, rfl⟩
  rw [← hlim] at O
  replace O : OKX X cJ6_bitCount_0f7a4 RJ6 0 lim 1 := O
  have hi : True := trivial
  have hn : M.1 ≤ lim := Nat.le_of_eq hlim.symm
  show WS X M 0 [(0, .int a0)] []
  unfold f_J6_bitCount_0f7a4 at h
  refine s_iload_n (pc := 0) O dJ6_bitCount_0f7a4_0 rfl 0 rfl ?_
  refine s_iload_n (pc := 1) O dJ6_bitCount_0f7a4_1 rfl 0 rfl ?_
  refine s_iconst (pc := 2) O (v := 1) dJ6_bitCount_0f7a4_2 (by decide) ?_
  refine s_iushr (pc := 3) O dJ6_bitCount_0f7a4_3 ?_
  refine s_ldcw (pc := 4) O dJ6_bitCount_0f7a4_4 tw_560 ?_
  refine s_iand (pc := 7) O dJ6_bitCount_0f7a4_7 ?_
  refine s_isub (pc := 8) O dJ6_bitCount_0f7a4_8 ?_
  refine s_istore_n (pc := 9) O (loc' := [(0, .int (a0 - ((((a0 : Int32).toUInt32 >>> ((1 : Int32).toUInt32 &&& Int32.toUInt32 31)).toInt32) &&& 1431655765)))]) dJ6_bitCount_0f7a4_9 rfl (by decide) rfl ?_
  refine s_iload_n (pc := 10) O dJ6_bitCount_0f7a4_10 rfl 0 rfl ?_
  refine s_ldcw (pc := 11) O dJ6_bitCount_0f7a4_11 tw_561 ?_
  refine s_iand (pc := 14) O dJ6_bitCount_0f7a4_14 ?_
  refine s_iload_n (pc := 15) O dJ6_bitCount_0f7a4_15 rfl 0 rfl ?_
  refine s_iconst (pc := 16) O (v := 2) dJ6_bitCount_0f7a4_16 (by decide) ?_
  refine s_iushr (pc := 17) O dJ6_bitCount_0f7a4_17 ?_
  refine s_ldcw (pc := 18) O dJ6_bitCount_0f7a4_18 tw_561 ?_
  refine s_iand (pc := 21) O dJ6_bitCount_0f7a4_21 ?_
  refine s_iadd (pc := 22) O dJ6_bitCount_0f7a4_22 ?_
  refine s_istore_n (pc := 23) O (loc' := [(0, .int (((a0 - ((((a0 : Int32).toUInt32 >>> ((1 : Int32).toUInt32 &&& Int32.toUInt32 31)).toInt32) &&& 1431655765)) &&& 858993459) + (((((a0 - ((((a0 : Int32).toUInt32 >>> ((1 : Int32).toUInt32 &&& Int32.toUInt32 31)).toInt32) &&& 1431655765)) : Int32).toUInt32 >>> ((2 : Int32).toUInt32 &&& Int32.toUInt32 31)).toInt32) &&& 858993459)))]) dJ6_bitCount_0f7a4_23 rfl (by decide) rfl ?_
  refine s_iload_n (pc := 24) O dJ6_bitCount_0f7a4_24 rfl 0 rfl ?_
  refine s_iload_n (pc := 25) O dJ6_bitCount_0f7a4_25 rfl 0 rfl ?_
  refine s_iconst (pc := 26) O (v := 4) dJ6_bitCount_0f7a4_26 (by decide) ?_
  refine s_iushr (pc := 27) O dJ6_bitCount_0f7a4_27 ?_
  refine s_iadd (pc := 28) O dJ6_bitCount_0f7a4_28 ?_
  refine s_ldcw (pc := 29) O dJ6_bitCount_0f7a4_29 tw_562 ?_
  refine s_iand (pc := 32) O dJ6_bitCount_0f7a4_32 ?_
  refine s_istore_n (pc := 33) O (loc' := [(0, .int (((((a0 - ((((a0 : Int32).toUInt32 >>> ((1 : Int32).toUInt32 &&& Int32.toUInt32 31)).toInt32) &&& 1431655765)) &&& 858993459) + (((((a0 - ((((a0 : Int32).toUInt32 >>> ((1 : Int32).toUInt32 &&& Int32.toUInt32 31)).toInt32) &&& 1431655765)) : Int32).toUInt32 >>> ((2 : Int32).toUInt32 &&& Int32.toUInt32 31)).toInt32) &&& 858993459)) + ((((((a0 - ((((a0 : Int32).toUInt32 >>> ((1 : Int32).toUInt32 &&& Int32.toUInt32 31)).toInt32) &&& 1431655765)) &&& 858993459) + (((((a0 - ((((a0 : Int32).toUInt32 >>> ((1 : Int32).toUInt32 &&& Int32.toUInt32 31)).toInt32) &&& 1431655765)) : Int32).toUInt32 >>> ((2 : Int32).toUInt32 &&& Int32.toUInt32 31)).toInt32) &&& 858993459)) : Int32).toUInt32 >>> ((4 : Int32).toUInt32 &&& Int32.toUInt32 31)).toInt32)) &&& 252645135))]) dJ6_bitCount_0f7a4_33 rfl (by decide) rfl ?_
  refine s_iload_n (pc := 34) O dJ6_bitCount_0f7a4_34 rfl 0 rfl ?_
  refine s_iload_n (pc := 35) O dJ6_bitCount_0f7a4_35 rfl 0 rfl ?_
  refine s_bipush (pc := 36) O (v := 8) dJ6_bitCount_0f7a4_36 (by decide) ?_
  refine s_iushr (pc := 38) O dJ6_bitCount_0f7a4_38 ?_
  refine s_iadd (pc := 39) O dJ6_bitCount_0f7a4_39 ?_
  refine s_istore_n (pc := 40) O (loc' := [(0, .int ((((((a0 - ((((a0 : Int32).toUInt32 >>> ((1 : Int32).toUInt32 &&& Int32.toUInt32 31)).toInt32) &&& 1431655765)) &&& 858993459) + (((((a0 - ((((a0 : Int32).toUInt32 >>> ((1 : Int32).toUInt32 &&& Int32.toUInt32 31)).toInt32) &&& 1431655765)) : Int32).toUInt32 >>> ((2 : Int32).toUInt32 &&& Int32.toUInt32 31)).toInt32) &&& 858993459)) + ((((((a0 - ((((a0 : Int32).toUInt32 >>> ((1 : Int32).toUInt32 &&& Int32.toUInt32 31)).toInt32) &&& 1431655765)) &&& 858993459) + (((((a0 - ((((a0 : Int32).toUInt32 >>> ((1 : Int32).toUInt32 &&& Int32.toUInt32 31)).toInt32) &&& 1431655765)) : Int32).toUInt32 >>> ((2 : Int32).toUInt32 &&& Int32.toUInt32 31)).toInt32) &&& 858993459)) : Int32).toUInt32 >>> ((4 : Int32).toUInt32 &&& Int32.toUInt32 31)).toInt32)) &&& 252645135) + ((((((((a0 - ((((a0 : Int32).toUInt32 >>> ((1 : Int32).toUInt32 &&& Int32.toUInt32 31)).toInt32) &&& 1431655765)) &&& 858993459) + (((((a0 - ((((a0 : Int32).toUInt32 >>> ((1 : Int32).toUInt32 &&& Int32.toUInt32 31)).toInt32) &&& 1431655765)) : Int32).toUInt32 >>> ((2 : Int32).toUInt32 &&& Int32.toUInt32 31)).toInt32) &&& 858993459)) + ((((((a0 - ((((a0 : Int32).toUInt32 >>> ((1 : Int32).toUInt32 &&& Int32.toUInt32 31)).toInt32) &&& 1431655765)) &&& 858993459) + (((((a0 - ((((a0 : Int32).toUInt32 >>> ((1 : Int32).toUInt32 &&& Int32.toUInt32 31)).toInt32) &&& 1431655765)) : Int32).toUInt32 >>> ((2 : Int32).toUInt32 &&& Int32.toUInt32 31)).toInt32) &&& 858993459)) : Int32).toUInt32 >>> ((4 : Int32).toUInt32 &&& Int32.toUInt32 31)).toInt32)) &&& 252645135) : Int32).toUInt32 >>> ((8 : Int32).toUInt32 &&& Int32.toUInt32 31)).toInt32)))]) dJ6_bitCount_0f7a4_40 rfl (by decide) rfl ?_
  refine s_iload_n (pc := 41) O dJ6_bitCount_0f7a4_41 rfl 0 rfl ?_
  refine s_iload_n (pc := 42) O dJ6_bitCount_0f7a4_42 rfl 0 rfl ?_
  refine s_bipush (pc := 43) O (v := 16) dJ6_bitCount_0f7a4_43 (by decide) ?_
  refine s_iushr (pc := 45) O dJ6_bitCount_0f7a4_45 ?_
  refine s_iadd (pc := 46) O dJ6_bitCount_0f7a4_46 ?_
  refine s_istore_n (pc := 47) O (loc' := [(0, .int (((((((a0 - ((((a0 : Int32).toUInt32 >>> ((1 : Int32).toUInt32 &&& Int32.toUInt32 31)).toInt32) &&& 1431655765)) &&& 858993459) + (((((a0 - ((((a0 : Int32).toUInt32 >>> ((1 : Int32).toUInt32 &&& Int32.toUInt32 31)).toInt32) &&& 1431655765)) : Int32).toUInt32 >>> ((2 : Int32).toUInt32 &&& Int32.toUInt32 31)).toInt32) &&& 858993459)) + ((((((a0 - ((((a0 : Int32).toUInt32 >>> ((1 : Int32).toUInt32 &&& Int32.toUInt32 31)).toInt32) &&& 1431655765)) &&& 858993459) + (((((a0 - ((((a0 : Int32).toUInt32 >>> ((1 : Int32).toUInt32 &&& Int32.toUInt32 31)).toInt32) &&& 1431655765)) : Int32).toUInt32 >>> ((2 : Int32).toUInt32 &&& Int32.toUInt32 31)).toInt32) &&& 858993459)) : Int32).toUInt32 >>> ((4 : Int32).toUInt32 &&& Int32.toUInt32 31)).toInt32)) &&& 252645135) + ((((((((a0 - ((((a0 : Int32).toUInt32 >>> ((1 : Int32).toUInt32 &&& Int32.toUInt32 31)).toInt32) &&& 1431655765)) &&& 858993459) + (((((a0 - ((((a0 : Int32).toUInt32 >>> ((1 : Int32).toUInt32 &&& Int32.toUInt32 31)).toInt32) &&& 1431655765)) : Int32).toUInt32 >>> ((2 : Int32).toUInt32 &&& Int32.toUInt32 31)).toInt32) &&& 858993459)) + ((((((a0 - ((((a0 : Int32).toUInt32 >>> ((1 : Int32).toUInt32 &&& Int32.toUInt32 31)).toInt32) &&& 1431655765)) &&& 858993459) + (((((a0 - ((((a0 : Int32).toUInt32 >>> ((1 : Int32).toUInt32 &&& Int32.toUInt32 31)).toInt32) &&& 1431655765)) : Int32).toUInt32 >>> ((2 : Int32).toUInt32 &&& Int32.toUInt32 31)).toInt32) &&& 858993459)) : Int32).toUInt32 >>> ((4 : Int32).toUInt32 &&& Int32.toUInt32 31)).toInt32)) &&& 252645135) : Int32).toUInt32 >>> ((8 : Int32).toUInt32 &&& Int32.toUInt32 31)).toInt32)) + (((((((((a0 - ((((a0 : Int32).toUInt32 >>> ((1 : Int32).toUInt32 &&& Int32.toUInt32 31)).toInt32) &&& 1431655765)) &&& 858993459) + (((((a0 - ((((a0 : Int32).toUInt32 >>> ((1 : Int32).toUInt32 &&& Int32.toUInt32 31)).toInt32) &&& 1431655765)) : Int32).toUInt32 >>> ((2 : Int32).toUInt32 &&& Int32.toUInt32 31)).toInt32) &&& 858993459)) + ((((((a0 - ((((a0 : Int32).toUInt32 >>> ((1 : Int32).toUInt32 &&& Int32.toUInt32 31)).toInt32) &&& 1431655765)) &&& 858993459) + (((((a0 - ((((a0 : Int32).toUInt32 >>> ((1 : Int32).toUInt32 &&& Int32.toUInt32 31)).toInt32) &&& 1431655765)) : Int32).toUInt32 >>> ((2 : Int32).toUInt32 &&& Int32.toUInt32 31)).toInt32) &&& 858993459)) : Int32).toUInt32 >>> ((4 : Int32).toUInt32 &&& Int32.toUInt32 31)).toInt32)) &&& 252645135) + ((((((((a0 - ((((a0 : Int32).toUInt32 >>> ((1 : Int32).toUInt32 &&& Int32.toUInt32 31)).toInt32) &&& 1431655765)) &&& 858993459) + (((((a0 - ((((a0 : Int32).toUInt32 >>> ((1 : Int32).toUInt32 &&& Int32.toUInt32 31)).toInt32) &&& 1431655765)) : Int32).toUInt32 >>> ((2 : Int32).toUInt32 &&& Int32.toUInt32 31)).toInt32) &&& 858993459)) + ((((((a0 - ((((a0 : Int32).toUInt32 >>> ((1 : Int32).toUInt32 &&& Int32.toUInt32 31)).toInt32) &&& 1431655765)) &&& 858993459) + (((((a0 - ((((a0 : Int32).toUInt32 >>> ((1 : Int32).toUInt32 &&& Int32.toUInt32 31)).toInt32) &&& 1431655765)) : Int32).toUInt32 >>> ((2 : Int32).toUInt32 &&& Int32.toUInt32 31)).toInt32) &&& 858993459)) : Int32).toUInt32 >>> ((4 : Int32).toUInt32 &&& Int32.toUInt32 31)).toInt32)) &&& 252645135) : Int32).toUInt32 >>> ((8 : Int32).toUInt32 &&& Int32.toUInt32 31)).toInt32)) : Int32).toUInt32 >>> ((16 : Int32).toUInt32 &&& Int32.toUInt32 31)).toInt32)))]) dJ6_bitCount_0f7a4_47 rfl (by decide) rfl ?_
  refine s_iload_n (pc := 48) O dJ6_bitCount_0f7a4_48 rfl 0 rfl ?_
  refine s_bipush (pc := 49) O (v := 63) dJ6_bitCount_0f7a4_49 (by decide) ?_
  refine s_iand (pc := 51) O dJ6_bitCount_0f7a4_51 ?_
  cases h
  exact s_iret (pc := 52) O hK dJ6_bitCount_0f7a4_52

def z_X0_become_10 (M : MM) (p0 : Nat) (p1 : Nat) (a2 : Int32) : Option ((MM) ⊕ (Int32 × MM)) :=
  (fI M p0 0 1).bind fun v1 => if v1 ≤ a2 then (some ((.inl M))) else ((fR M p0 0 0).bind fun v2 => (fR M p1 0 0).bind fun v3 => (aI M v3 a2).bind fun v4 => (waI M v2 a2 v4).bind fun M5 => some ((.inr ((a2 + 1), M5))))
set_option maxHeartbeats 4000000 in
set_option maxRecDepth 100000 in
theorem b_X0_become_10 {X : CT} {lim : Nat} {M : MM} {p0 : Nat} {p1 : Nat} {a2 : Int32} (O : OKX X cX0_become RX0 0 lim 3) (hi : True) (hn : M.1 ≤ lim) {o : (MM) ⊕ (Int32 × MM)} (h : z_X0_become_10 M p0 p1 a2 = some o) (hK : (KI (fun (q : MM) => RTX X none none q) (fun (t : Int32 × MM) => t.2.1 ≤ lim → WS X t.2 10 [(0, rf X.1 p0), (1, rf X.1 p1), (2, .int t.1)] [])) o) : WS X M 10 [(0, rf X.1 p0), (1, rf X.1 p1), (2, .int a2)] [] := by
  unfold z_X0_become_10 at h
  refine s_iload_n (pc := 10) O dX0_become_10 rfl 2 rfl ?_
  refine s_aload_n (pc := 11) O dX0_become_11 rfl 0 rfl ?_
  obtain ⟨v1, e, h⟩ := bd h
  refine s_getI (pc := 12) O kc0 (k := 1) rfl tw_159 e dX0_become_12 ?_
  refine s_icmp_ge (pc := 15) O (tgt := 36) dX0_become_15 (by decide) (fun c => ?_) (fun c => ?_)
  · have h := ifp c h
    cases h
    exact s_vret (pc := 36) O hK dX0_become_36
  · have h := ifn c h
    refine s_aload_n (pc := 18) O dX0_become_18 rfl 0 rfl ?_
    obtain ⟨v2, e, h⟩ := bd h
    refine s_getR (pc := 19) O kc0 (k := 0) rfl tw_157 e dX0_become_19 ?_
    refine s_iload_n (pc := 22) O dX0_become_22 rfl 2 rfl ?_
    refine s_aload_n (pc := 23) O dX0_become_23 rfl 1 rfl ?_
    obtain ⟨v3, e, h⟩ := bd h
    refine s_getR (pc := 24) O kc0 (k := 0) rfl tw_157 e dX0_become_24 ?_
    refine s_iload_n (pc := 27) O dX0_become_27 rfl 2 rfl ?_
    obtain ⟨v4, e, h⟩ := bd h
    refine s_aldI (pc := 28) O e dX0_become_28 ?_
    obtain ⟨M5, e, h⟩ := bd h
    refine s_astI (pc := 29) O e dX0_become_29 ?_
    have hn : M5.1 ≤ lim := by rw [waI_n e]; exact hn
    refine s_iinc (pc := 30) O (v := (a2 + 1)) (loc' := [(2, .int (a2 + 1)), (0, rf X.1 p0), (1, rf X.1 p1)]) dX0_become_30 2 rfl rfl (by decide) rfl ?_
    refine s_goto (pc := 33) O (tgt := 10) dX0_become_33 (by decide) ?_
    cases h
    exact s_sub (pc := 10) O [1, 2, 0] rfl (hK hn)
set_option maxHeartbeats 4000000 in
set_option maxRecDepth 100000 in
theorem l_X0_become_10 {X : CT} {lim : Nat} {M : MM} {p0 : Nat} {p1 : Nat} {a2 : Int32} (O : OKX X cX0_become RX0 0 lim 3) (hi : True) (hn : M.1 ≤ lim) {o : MM} {n : Nat} (h : lp (fun t => z_X0_become_10 t.2 p0 p1 t.1) n (a2, M) = some o) (hK : (fun (q : MM) => RTX X none none q) o) : WS X M 10 [(0, rf X.1 p0), (1, rf X.1 p1), (2, .int a2)] [] := by
  refine lp_ind (P := fun (o : MM) (t : Int32 × MM) => t.2.1 ≤ lim → (fun (q : MM) => RTX X none none q) o → WS X t.2 10 [(0, rf X.1 p0), (1, rf X.1 p1), (2, .int t.1)] []) (fun t o hs hn hK => ?_) n (a2, M) o h hn hK
  rcases hs with h | ⟨u, h, hu⟩
  · exact b_X0_become_10 O hi hn h hK
  · exact b_X0_become_10 O hi hn h (show KI _ _ (.inr u) from fun hn => hu hn hK)
def f_X0_become (M : MM) (p0 : Nat) (p1 : Nat) : Option (MM) :=
  if p0 < M.1 ∧ kd p0 = 0 then ((fI M p1 0 1).bind fun v1 => (wfI M p0 0 1 v1).bind fun M2 => lp (fun t => z_X0_become_10 t.2 p0 p1 t.1) FU (0, M2)) else none
theorem r_X0_become {M : MM} {p0 : Nat} {p1 : Nat} {o : MM} (h : f_X0_become M p0 p1 = some o) : p0 < M.1 ∧ kd p0 = 0 := by
  unfold f_X0_become at h
  exact (gd h).1
theorem cy_X0_become : CallY yX0_become cX0_become 3 (none) 1 := ⟨by decide +kernel, tw_623, tw_43, by decide⟩
set_option maxHeartbeats 4000000 in
set_option maxRecDepth 100000 in
theorem c_X0_become {G : GG} {M : MM} {p0 : Nat} {p1 : Nat} {M' : MM} (h : f_X0_become M p0 p1 = some M') (hn : M.1 ≤ M'.1) : Ct G yX0_become cX0_become 3 (none) 0 [rf G p0, rf G p1] M (none) M' := by
  refine ct_of (by decide +kernel) (Nat.le_of_ble_eq_true rfl) (fun X hX O hK hi0 => ?_)
  subst hX
  obtain ⟨lim, hlim⟩ : ∃ z, z = M'.1 := ⟨_, rfl⟩
  rw [← hlim] at O hn
  replace O : OKX X cX0_become RX0 0 lim 3 := O
  have hi : True := trivial
  show WS X M 0 [(0, rf X.1 p0), (1, rf X.1 p1)] []
  unfold f_X0_become at h
  obtain ⟨hg0, h⟩ := gd h
  refine s_aload_n (pc := 0) O dX0_become_0 rfl 0 rfl ?_
  refine s_aload_n (pc := 1) O dX0_become_1 rfl 1 rfl ?_
  obtain ⟨v1, e, h⟩ := bd h
  refine s_getI (pc := 2) O kc0 (k := 1) rfl tw_159 e dX0_become_2 ?_
  obtain ⟨M2, e, h⟩ := bd h
  refine s_putI (pc := 5) O kc0 (k := 1) rfl rfl rfl tw_159 e dX0_become_5 ?_
  have hn : M2.1 ≤ lim := by rw [wfI_n e]; exact hn
  refine s_iconst (pc := 8) O (v := 0) dX0_become_8 (by decide) ?_
  refine s_istore_n (pc := 9) O (loc' := [(2, .int 0), (0, rf X.1 p0), (1, rf X.1 p1)]) dX0_become_9 rfl (by decide) rfl ?_
  exact s_sub (pc := 10) O [1, 2, 0] rfl (l_X0_become_10 O hi hn h hK)

def j_X0_timesOf_43 (M : MM) (p0 : Nat) (a1 : Int32) (a2 : Int32) (a3 : Int32) (a4 : Int32) (a5 : Int32) : Option (((Int32) ⊕ (Int32 × Int32)) ⊕ (Int32 × Int32 × Int32)) :=
  some ((.inr (a2, (a4 / 10), (a5 + 1))))
set_option maxHeartbeats 4000000 in
set_option maxRecDepth 100000 in
theorem g_X0_timesOf_43 {X : CT} {lim : Nat} {M : MM} {p0 : Nat} {a1 : Int32} {a2 : Int32} {a3 : Int32} {a4 : Int32} {a5 : Int32} (O : OKX X cX0_timesOf RX0 0 lim 6) (hi : True) (hn : M.1 ≤ lim) {o : ((Int32) ⊕ (Int32 × Int32)) ⊕ (Int32 × Int32 × Int32)} (h : j_X0_timesOf_43 M p0 a1 a2 a3 a4 a5 = some o) (hK : (KI (KI (fun (q : Int32) => RTX X (some .int) (some (.int q)) M) (fun (t : Int32 × Int32) => WS X M 4 [(0, rf X.1 p0), (1, .int a1), (2, .int t.1), (3, .int t.2)] [])) (fun (t : Int32 × Int32 × Int32) => WS X M 23 [(0, rf X.1 p0), (1, .int a1), (2, .int t.1), (3, .int a3), (4, .int t.2.1), (5, .int t.2.2)] [])) o) : WS X M 43 [(0, rf X.1 p0), (1, .int a1), (2, .int a2), (3, .int a3), (4, .int a4), (5, .int a5)] [] := by
  unfold j_X0_timesOf_43 at h
  refine s_iload (pc := 43) O dX0_timesOf_43 4 rfl ?_
  refine s_bipush (pc := 45) O (v := 10) dX0_timesOf_45 (by decide) ?_
  refine s_idiv (pc := 47) O dX0_timesOf_47 (by decide) ?_
  refine s_istore (pc := 48) O (loc' := [(4, .int (a4 / 10)), (0, rf X.1 p0), (1, .int a1), (2, .int a2), (3, .int a3), (5, .int a5)]) dX0_timesOf_48 (by decide) rfl ?_
  refine s_iinc (pc := 50) O (v := (a5 + 1)) (loc' := [(5, .int (a5 + 1)), (4, .int (a4 / 10)), (0, rf X.1 p0), (1, .int a1), (2, .int a2), (3, .int a3)]) dX0_timesOf_50 5 rfl rfl (by decide) rfl ?_
  refine s_goto (pc := 53) O (tgt := 23) dX0_timesOf_53 (by decide) ?_
  cases h
  exact s_sub (pc := 23) O [2, 3, 4, 5, 1, 0] rfl hK
def z_X0_timesOf_23 (M : MM) (p0 : Nat) (a1 : Int32) (a3 : Int32) (a2 : Int32) (a4 : Int32) (a5 : Int32) : Option (((Int32) ⊕ (Int32 × Int32)) ⊕ (Int32 × Int32 × Int32)) :=
  if (3 : Int32) ≤ a5 then (some ((.inl (.inr (a2, (a3 + 1)))))) else (if (a4 - a4 / 10 * 10) = (a1 + 1) then (j_X0_timesOf_43 M p0 a1 ((a2 + 1)) a3 a4 a5) else (j_X0_timesOf_43 M p0 a1 a2 a3 a4 a5))
set_option maxHeartbeats 4000000 in
set_option maxRecDepth 100000 in
theorem b_X0_timesOf_23 {X : CT} {lim : Nat} {M : MM} {p0 : Nat} {a1 : Int32} {a3 : Int32} {a2 : Int32} {a4 : Int32} {a5 : Int32} (O : OKX X cX0_timesOf RX0 0 lim 6) (hi : True) (hn : M.1 ≤ lim) {o : ((Int32) ⊕ (Int32 × Int32)) ⊕ (Int32 × Int32 × Int32)} (h : z_X0_timesOf_23 M p0 a1 a3 a2 a4 a5 = some o) (hK : (KI (KI (fun (q : Int32) => RTX X (some .int) (some (.int q)) M) (fun (t : Int32 × Int32) => WS X M 4 [(0, rf X.1 p0), (1, .int a1), (2, .int t.1), (3, .int t.2)] [])) (fun (t : Int32 × Int32 × Int32) => WS X M 23 [(0, rf X.1 p0), (1, .int a1), (2, .int t.1), (3, .int a3), (4, .int t.2.1), (5, .int t.2.2)] [])) o) : WS X M 23 [(0, rf X.1 p0), (1, .int a1), (2, .int a2), (3, .int a3), (4, .int a4), (5, .int a5)] [] := by
  unfold z_X0_timesOf_23 at h
  refine s_iload (pc := 23) O dX0_timesOf_23 5 rfl ?_
  refine s_iconst (pc := 25) O (v := 3) dX0_timesOf_25 (by decide) ?_
  refine s_icmp_ge (pc := 26) O (tgt := 56) dX0_timesOf_26 (by decide) (fun c => ?_) (fun c => ?_)
  · have h := ifp c h
    refine s_iinc (pc := 56) O (v := (a3 + 1)) (loc' := [(3, .int (a3 + 1)), (0, rf X.1 p0), (1, .int a1), (2, .int a2), (4, .int a4), (5, .int a5)]) dX0_timesOf_56 3 rfl rfl (by decide) rfl ?_
    refine s_goto (pc := 59) O (tgt := 4) dX0_timesOf_59 (by decide) ?_
    cases h
    exact s_sub (pc := 4) O [1, 2, 3, 0] rfl hK
  · have h := ifn c h
    refine s_iload (pc := 29) O dX0_timesOf_29 4 rfl ?_
    refine s_bipush (pc := 31) O (v := 10) dX0_timesOf_31 (by decide) ?_
    refine s_irem (pc := 33) O dX0_timesOf_33 (by decide) ?_
    refine s_iload_n (pc := 34) O dX0_timesOf_34 rfl 1 rfl ?_
    refine s_iconst (pc := 35) O (v := 1) dX0_timesOf_35 (by decide) ?_
    refine s_iadd (pc := 36) O dX0_timesOf_36 ?_
    refine s_icmp_ne (pc := 37) O (tgt := 43) dX0_timesOf_37 (by decide) (fun c => ?_) (fun c => ?_)
    · have h := ifn c h
      exact s_sub (pc := 43) O [0, 1, 2, 3, 4, 5] rfl (g_X0_timesOf_43 O hi hn h hK)
    · have h := ifp c h
      refine s_iinc (pc := 40) O (v := (a2 + 1)) (loc' := [(2, .int (a2 + 1)), (0, rf X.1 p0), (1, .int a1), (3, .int a3), (4, .int a4), (5, .int a5)]) dX0_timesOf_40 2 rfl rfl (by decide) rfl ?_
      exact s_sub (pc := 43) O [1, 2, 0, 3, 4, 5] rfl (g_X0_timesOf_43 O hi hn h hK)
set_option maxHeartbeats 4000000 in
set_option maxRecDepth 100000 in
theorem l_X0_timesOf_23 {X : CT} {lim : Nat} {M : MM} {p0 : Nat} {a1 : Int32} {a3 : Int32} {a2 : Int32} {a4 : Int32} {a5 : Int32} (O : OKX X cX0_timesOf RX0 0 lim 6) (hi : True) (hn : M.1 ≤ lim) {o : (Int32) ⊕ (Int32 × Int32)} {n : Nat} (h : lp (fun t => z_X0_timesOf_23 M p0 a1 a3 t.1 t.2.1 t.2.2) n (a2, a4, a5) = some o) (hK : (KI (fun (q : Int32) => RTX X (some .int) (some (.int q)) M) (fun (t : Int32 × Int32) => WS X M 4 [(0, rf X.1 p0), (1, .int a1), (2, .int t.1), (3, .int t.2)] [])) o) : WS X M 23 [(0, rf X.1 p0), (1, .int a1), (2, .int a2), (3, .int a3), (4, .int a4), (5, .int a5)] [] := by
  refine lp_ind (P := fun (o : (Int32) ⊕ (Int32 × Int32)) (t : Int32 × Int32 × Int32) => (KI (fun (q : Int32) => RTX X (some .int) (some (.int q)) M) (fun (t : Int32 × Int32) => WS X M 4 [(0, rf X.1 p0), (1, .int a1), (2, .int t.1), (3, .int t.2)] [])) o → WS X M 23 [(0, rf X.1 p0), (1, .int a1), (2, .int t.1), (3, .int a3), (4, .int t.2.1), (5, .int t.2.2)] []) (fun t o hs  hK => ?_) n (a2, a4, a5) o h  hK
  rcases hs with h | ⟨u, h, hu⟩
  · exact b_X0_timesOf_23 O hi hn h hK
  · exact b_X0_timesOf_23 O hi hn h (show KI _ _ (.inr u) from hu hK)
def z_X0_timesOf_4 (M : MM) (p0 : Nat) (a1 : Int32) (a2 : Int32) (a3 : Int32) : Option ((Int32) ⊕ (Int32 × Int32)) :=
  (fI M p0 0 1).bind fun v1 => if v1 ≤ a3 then (some ((.inl a2))) else ((fR M p0 0 0).bind fun v2 => (aI M v2 a3).bind fun v3 => lp (fun t => z_X0_timesOf_23 M p0 a1 a3 t.1 t.2.1 t.2.2) FU (a2, v3, 0))
set_option maxHeartbeats 4000000 in
set_option maxRecDepth 100000 in
theorem b_X0_timesOf_4 {X : CT} {lim : Nat} {M : MM} {p0 : Nat} {a1 : Int32} {a2 : Int32} {a3 : Int32} (O : OKX X cX0_timesOf RX0 0 lim 6) (hi : True) (hn : M.1 ≤ lim) {o : (Int32) ⊕ (Int32 × Int32)} (h : z_X0_timesOf_4 M p0 a1 a2 a3 = some o) (hK : (KI (fun (q : Int32) => RTX X (some .int) (some (.int q)) M) (fun (t : Int32 × Int32) => WS X M 4 [(0, rf X.1 p0), (1, .int a1), (2, .int t.1), (3, .int t.2)] [])) o) : WS X M 4 [(0, rf X.1 p0), (1, .int a1), (2, .int a2), (3, .int a3)] [] := by
  unfold z_X0_timesOf_4 at h
  refine s_iload_n (pc := 4) O dX0_timesOf_4 rfl 3 rfl ?_
  refine s_aload_n (pc := 5) O dX0_timesOf_5 rfl 0 rfl ?_
  obtain ⟨v1, e, h⟩ := bd h
  refine s_getI (pc := 6) O kc0 (k := 1) rfl tw_159 e dX0_timesOf_6 ?_
  refine s_icmp_ge (pc := 9) O (tgt := 62) dX0_timesOf_9 (by decide) (fun c => ?_) (fun c => ?_)
  · have h := ifp c h
    refine s_iload_n (pc := 62) O dX0_timesOf_62 rfl 2 rfl ?_
    cases h
    exact s_iret (pc := 63) O hK dX0_timesOf_63
  · have h := ifn c h
    refine s_aload_n (pc := 12) O dX0_timesOf_12 rfl 0 rfl ?_
    obtain ⟨v2, e, h⟩ := bd h
    refine s_getR (pc := 13) O kc0 (k := 0) rfl tw_157 e dX0_timesOf_13 ?_
    refine s_iload_n (pc := 16) O dX0_timesOf_16 rfl 3 rfl ?_
    obtain ⟨v3, e, h⟩ := bd h
    refine s_aldI (pc := 17) O e dX0_timesOf_17 ?_
    refine s_istore (pc := 18) O (loc' := [(4, .int v3), (0, rf X.1 p0), (1, .int a1), (2, .int a2), (3, .int a3)]) dX0_timesOf_18 (by decide) rfl ?_
    refine s_iconst (pc := 20) O (v := 0) dX0_timesOf_20 (by decide) ?_
    refine s_istore (pc := 21) O (loc' := [(5, .int 0), (4, .int v3), (0, rf X.1 p0), (1, .int a1), (2, .int a2), (3, .int a3)]) dX0_timesOf_21 (by decide) rfl ?_
    exact s_sub (pc := 23) O [2, 3, 4, 5, 1, 0] rfl (l_X0_timesOf_23 O hi hn h hK)
set_option maxHeartbeats 4000000 in
set_option maxRecDepth 100000 in
theorem l_X0_timesOf_4 {X : CT} {lim : Nat} {M : MM} {p0 : Nat} {a1 : Int32} {a2 : Int32} {a3 : Int32} (O : OKX X cX0_timesOf RX0 0 lim 6) (hi : True) (hn : M.1 ≤ lim) {o : Int32} {n : Nat} (h : lp (fun t => z_X0_timesOf_4 M p0 a1 t.1 t.2) n (a2, a3) = some o) (hK : (fun (q : Int32) => RTX X (some .int) (some (.int q)) M) o) : WS X M 4 [(0, rf X.1 p0), (1, .int a1), (2, .int a2), (3, .int a3)] [] := by
  refine lp_ind (P := fun (o : Int32) (t : Int32 × Int32) => (fun (q : Int32) => RTX X (some .int) (some (.int q)) M) o → WS X M 4 [(0, rf X.1 p0), (1, .int a1), (2, .int t.1), (3, .int t.2)] []) (fun t o hs  hK => ?_) n (a2, a3) o h  hK
  rcases hs with h | ⟨u, h, hu⟩
  · exact b_X0_timesOf_4 O hi hn h hK
  · exact b_X0_timesOf_4 O hi hn h (show KI _ _ (.inr u) from hu hK)
def f_X0_timesOf (M : MM) (p0 : Nat) (a1 : Int32) : Option (Int32) :=
  if p0 < M.1 ∧ kd p0 = 0 then (lp (fun t => z_X0_timesOf_4 M p0 a1 t.1 t.2) FU (0, 0)) else none
theorem r_X0_timesOf {M : MM} {p0 : Nat} {a1 : Int32} {o : Int32} (h : f_X0_timesOf M p0 a1 = some o) : p0 < M.1 ∧ kd p0 = 0 := by
  unfold f_X0_timesOf at h
  exact (gd h).1
theorem cy_X0_timesOf : CallY yX0_timesOf cX0_timesOf 6 (some .int) 1 := ⟨by decide +kernel, tw_615, tw_43, by decide⟩
set_option maxHeartbeats 4000000 in
set_option maxRecDepth 100000 in
theorem c_X0_timesOf {G : GG} {M : MM} {p0 : Nat} {a1 : Int32} {r : Int32} (h : f_X0_timesOf M p0 a1 = some r) : Ct G yX0_timesOf cX0_timesOf 6 (some .int) 0 [rf G p0, .int a1] M (some (.int r)) M := by
  refine ct_of (by decide +kernel) (Nat.le_of_ble_eq_true rfl) (fun X hX O hK hi0 => ?_)
  subst hX
  obtain ⟨lim, hlim⟩ : ∃ z, z = M.1 := ⟨_, rfl⟩
  rw [← hlim] at O
  replace O : OKX X cX0_timesOf RX0 0 lim 6 := O
  have hi : True := trivial
  have hn : M.1 ≤ lim := Nat.le_of_eq hlim.symm
  show WS X M 0 [(0, rf X.1 p0), (1, .int a1)] []
  unfold f_X0_timesOf at h
  obtain ⟨hg0, h⟩ := gd h
  refine s_iconst (pc := 0) O (v := 0) dX0_timesOf_0 (by decide) ?_
  refine s_istore_n (pc := 1) O (loc' := [(2, .int 0), (0, rf X.1 p0), (1, .int a1)]) dX0_timesOf_1 rfl (by decide) rfl ?_
  refine s_iconst (pc := 2) O (v := 0) dX0_timesOf_2 (by decide) ?_
  refine s_istore_n (pc := 3) O (loc' := [(3, .int 0), (2, .int 0), (0, rf X.1 p0), (1, .int a1)]) dX0_timesOf_3 rfl (by decide) rfl ?_
  exact s_sub (pc := 4) O [2, 3, 1, 0] rfl (l_X0_timesOf_4 O hi hn h hK)

def j_X1_bestToWrite_60 (M : MM) (p0 : Nat) (a1 : Int32) (a2 : Int32) (a3 : Int32) : Option ((Int32) ⊕ (Int32 × Int32 × Int32)) :=
  some ((.inr (a1, a2, (a3 + 1))))
set_option maxHeartbeats 4000000 in
set_option maxRecDepth 100000 in
theorem g_X1_bestToWrite_60 {X : CT} {lim : Nat} {M : MM} {p0 : Nat} {a1 : Int32} {a2 : Int32} {a3 : Int32} (O : OKX X cX1_bestToWrite RX1 0 lim 4) (hi : True) (hn : M.1 ≤ lim) {o : (Int32) ⊕ (Int32 × Int32 × Int32)} (h : j_X1_bestToWrite_60 M p0 a1 a2 a3 = some o) (hK : (KI (fun (q : Int32) => RTX X (some .int) (some (.int q)) M) (fun (t : Int32 × Int32 × Int32) => WS X M 6 [(0, rf X.1 p0), (1, .int t.1), (2, .int t.2.1), (3, .int t.2.2)] [])) o) : WS X M 60 [(0, rf X.1 p0), (1, .int a1), (2, .int a2), (3, .int a3)] [] := by
  unfold j_X1_bestToWrite_60 at h
  refine s_iinc (pc := 60) O (v := (a3 + 1)) (loc' := [(3, .int (a3 + 1)), (0, rf X.1 p0), (1, .int a1), (2, .int a2)]) dX1_bestToWrite_60 3 rfl rfl (by decide) rfl ?_
  refine s_goto (pc := 63) O (tgt := 6) dX1_bestToWrite_63 (by decide) ?_
  cases h
  exact s_sub (pc := 6) O [1, 2, 3, 0] rfl hK
def z_X1_bestToWrite_6 (M : MM) (p0 : Nat) (a1 : Int32) (a2 : Int32) (a3 : Int32) : Option ((Int32) ⊕ (Int32 × Int32 × Int32)) :=
  if (1000 : Int32) ≤ a3 then (some ((.inl a1))) else ((fR M p0 1 0).bind fun v1 => (aZ M v1 a3).bind fun v2 => if v2 = 0 then (j_X1_bestToWrite_60 M p0 a1 a2 a3) else ((fR M p0 1 7).bind fun v3 => (aI M v3 a3).bind fun v4 => if v4 = 0 then (j_X1_bestToWrite_60 M p0 a1 a2 a3) else ((fR M p0 1 3).bind fun v5 => (fR M p0 1 7).bind fun v6 => (aI M v6 a3).bind fun v7 => (aI M v5 v7).bind fun v8 => if v8 ≤ a2 then (j_X1_bestToWrite_60 M p0 a1 a2 a3) else ((fR M p0 1 3).bind fun v9 => (fR M p0 1 7).bind fun v10 => (aI M v10 a3).bind fun v11 => (aI M v9 v11).bind fun v12 => j_X1_bestToWrite_60 M p0 a3 v12 a3))))
set_option maxHeartbeats 4000000 in
set_option maxRecDepth 100000 in
theorem b_X1_bestToWrite_6 {X : CT} {lim : Nat} {M : MM} {p0 : Nat} {a1 : Int32} {a2 : Int32} {a3 : Int32} (O : OKX X cX1_bestToWrite RX1 0 lim 4) (hi : True) (hn : M.1 ≤ lim) {o : (Int32) ⊕ (Int32 × Int32 × Int32)} (h : z_X1_bestToWrite_6 M p0 a1 a2 a3 = some o) (hK : (KI (fun (q : Int32) => RTX X (some .int) (some (.int q)) M) (fun (t : Int32 × Int32 × Int32) => WS X M 6 [(0, rf X.1 p0), (1, .int t.1), (2, .int t.2.1), (3, .int t.2.2)] [])) o) : WS X M 6 [(0, rf X.1 p0), (1, .int a1), (2, .int a2), (3, .int a3)] [] := by
  unfold z_X1_bestToWrite_6 at h
  refine s_iload_n (pc := 6) O dX1_bestToWrite_6 rfl 3 rfl ?_
  refine s_sipush (pc := 7) O (v := 1000) dX1_bestToWrite_7 (by decide) ?_
  refine s_icmp_ge (pc := 10) O (tgt := 66) dX1_bestToWrite_10 (by decide) (fun c => ?_) (fun c => ?_)
  · have h := ifp c h
    refine s_iload_n (pc := 66) O dX1_bestToWrite_66 rfl 1 rfl ?_
    cases h
    exact s_iret (pc := 67) O hK dX1_bestToWrite_67
  · have h := ifn c h
    refine s_aload_n (pc := 13) O dX1_bestToWrite_13 rfl 0 rfl ?_
    obtain ⟨v1, e, h⟩ := bd h
    refine s_getR (pc := 14) O kc1 (k := 0) rfl tw_101 e dX1_bestToWrite_14 ?_
    refine s_iload_n (pc := 17) O dX1_bestToWrite_17 rfl 3 rfl ?_
    obtain ⟨v2, e, h⟩ := bd h
    refine s_aldZ (pc := 18) O e dX1_bestToWrite_18 ?_
    refine s_if_eq (pc := 19) O (tgt := 60) dX1_bestToWrite_19 (by decide) (fun c => ?_) (fun c => ?_)
    · have h := ifp c h
      exact s_sub (pc := 60) O [0, 1, 2, 3] rfl (g_X1_bestToWrite_60 O hi hn h hK)
    · have h := ifn c h
      refine s_aload_n (pc := 22) O dX1_bestToWrite_22 rfl 0 rfl ?_
      obtain ⟨v3, e, h⟩ := bd h
      refine s_getR (pc := 23) O kc1 (k := 7) rfl tw_111 e dX1_bestToWrite_23 ?_
      refine s_iload_n (pc := 26) O dX1_bestToWrite_26 rfl 3 rfl ?_
      obtain ⟨v4, e, h⟩ := bd h
      refine s_aldI (pc := 27) O e dX1_bestToWrite_27 ?_
      refine s_if_eq (pc := 28) O (tgt := 60) dX1_bestToWrite_28 (by decide) (fun c => ?_) (fun c => ?_)
      · have h := ifp c h
        exact s_sub (pc := 60) O [0, 1, 2, 3] rfl (g_X1_bestToWrite_60 O hi hn h hK)
      · have h := ifn c h
        refine s_aload_n (pc := 31) O dX1_bestToWrite_31 rfl 0 rfl ?_
        obtain ⟨v5, e, h⟩ := bd h
        refine s_getR (pc := 32) O kc1 (k := 3) rfl tw_105 e dX1_bestToWrite_32 ?_
        refine s_aload_n (pc := 35) O dX1_bestToWrite_35 rfl 0 rfl ?_
        obtain ⟨v6, e, h⟩ := bd h
        refine s_getR (pc := 36) O kc1 (k := 7) rfl tw_111 e dX1_bestToWrite_36 ?_
        refine s_iload_n (pc := 39) O dX1_bestToWrite_39 rfl 3 rfl ?_
        obtain ⟨v7, e, h⟩ := bd h
        refine s_aldI (pc := 40) O e dX1_bestToWrite_40 ?_
        obtain ⟨v8, e, h⟩ := bd h
        refine s_aldI (pc := 41) O e dX1_bestToWrite_41 ?_
        refine s_iload_n (pc := 42) O dX1_bestToWrite_42 rfl 2 rfl ?_
        refine s_icmp_le (pc := 43) O (tgt := 60) dX1_bestToWrite_43 (by decide) (fun c => ?_) (fun c => ?_)
        · have h := ifp c h
          exact s_sub (pc := 60) O [0, 1, 2, 3] rfl (g_X1_bestToWrite_60 O hi hn h hK)
        · have h := ifn c h
          refine s_iload_n (pc := 46) O dX1_bestToWrite_46 rfl 3 rfl ?_
          refine s_istore_n (pc := 47) O (loc' := [(1, .int a3), (0, rf X.1 p0), (2, .int a2), (3, .int a3)]) dX1_bestToWrite_47 rfl (by decide) rfl ?_
          refine s_aload_n (pc := 48) O dX1_bestToWrite_48 rfl 1 rfl ?_
          obtain ⟨v9, e, h⟩ := bd h
          refine s_getR (pc := 49) O kc1 (k := 3) rfl tw_105 e dX1_bestToWrite_49 ?_
          refine s_aload_n (pc := 52) O dX1_bestToWrite_52 rfl 1 rfl ?_
          obtain ⟨v10, e, h⟩ := bd h
          refine s_getR (pc := 53) O kc1 (k := 7) rfl tw_111 e dX1_bestToWrite_53 ?_
          refine s_iload_n (pc := 56) O dX1_bestToWrite_56 rfl 3 rfl ?_
          obtain ⟨v11, e, h⟩ := bd h
          refine s_aldI (pc := 57) O e dX1_bestToWrite_57 ?_
          obtain ⟨v12, e, h⟩ := bd h
          refine s_aldI (pc := 58) O e dX1_bestToWrite_58 ?_
          refine s_istore_n (pc := 59) O (loc' := [(2, .int v12), (1, .int a3), (0, rf X.1 p0), (3, .int a3)]) dX1_bestToWrite_59 rfl (by decide) rfl ?_
          exact s_sub (pc := 60) O [2, 1, 0, 3] rfl (g_X1_bestToWrite_60 O hi hn h hK)
set_option maxHeartbeats 4000000 in
set_option maxRecDepth 100000 in
theorem l_X1_bestToWrite_6 {X : CT} {lim : Nat} {M : MM} {p0 : Nat} {a1 : Int32} {a2 : Int32} {a3 : Int32} (O : OKX X cX1_bestToWrite RX1 0 lim 4) (hi : True) (hn : M.1 ≤ lim) {o : Int32} {n : Nat} (h : lp (fun t => z_X1_bestToWrite_6 M p0 t.1 t.2.1 t.2.2) n (a1, a2, a3) = some o) (hK : (fun (q : Int32) => RTX X (some .int) (some (.int q)) M) o) : WS X M 6 [(0, rf X.1 p0), (1, .int a1), (2, .int a2), (3, .int a3)] [] := by
  refine lp_ind (P := fun (o : Int32) (t : Int32 × Int32 × Int32) => (fun (q : Int32) => RTX X (some .int) (some (.int q)) M) o → WS X M 6 [(0, rf X.1 p0), (1, .int t.1), (2, .int t.2.1), (3, .int t.2.2)] []) (fun t o hs  hK => ?_) n (a1, a2, a3) o h  hK
  rcases hs with h | ⟨u, h, hu⟩
  · exact b_X1_bestToWrite_6 O hi hn h hK
  · exact b_X1_bestToWrite_6 O hi hn h (show KI _ _ (.inr u) from hu hK)
def f_X1_bestToWrite (M : MM) (p0 : Nat) : Option (Int32) :=
  if p0 < M.1 ∧ kd p0 = 1 then (lp (fun t => z_X1_bestToWrite_6 M p0 t.1 t.2.1 t.2.2) FU (0, (-1), 1)) else none
theorem r_X1_bestToWrite {M : MM} {p0 : Nat} {o : Int32} (h : f_X1_bestToWrite M p0 = some o) : p0 < M.1 ∧ kd p0 = 1 := by
  unfold f_X1_bestToWrite at h
  exact (gd h).1
theorem cy_X1_bestToWrite : CallY yX1_bestToWrite cX1_bestToWrite 4 (some .int) 0 := ⟨by decide +kernel, tw_524, tw_42, by decide⟩
set_option maxHeartbeats 4000000 in
set_option maxRecDepth 100000 in
theorem c_X1_bestToWrite {G : GG} {M : MM} {p0 : Nat} {r : Int32} (h : f_X1_bestToWrite M p0 = some r) : Ct G yX1_bestToWrite cX1_bestToWrite 4 (some .int) 0 [rf G p0] M (some (.int r)) M := by
  refine ct_of (by decide +kernel) (Nat.le_of_ble_eq_true rfl) (fun X hX O hK hi0 => ?_)
  subst hX
  obtain ⟨lim, hlim⟩ : ∃ z, z = M.1 := ⟨_, rfl⟩
  rw [← hlim] at O
  replace O : OKX X cX1_bestToWrite RX1 0 lim 4 := O
  have hi : True := trivial
  have hn : M.1 ≤ lim := Nat.le_of_eq hlim.symm
  show WS X M 0 [(0, rf X.1 p0)] []
  unfold f_X1_bestToWrite at h
  obtain ⟨hg0, h⟩ := gd h
  refine s_iconst (pc := 0) O (v := 0) dX1_bestToWrite_0 (by decide) ?_
  refine s_istore_n (pc := 1) O (loc' := [(1, .int 0), (0, rf X.1 p0)]) dX1_bestToWrite_1 rfl (by decide) rfl ?_
  refine s_iconst (pc := 2) O (v := (-1)) dX1_bestToWrite_2 (by decide) ?_
  refine s_istore_n (pc := 3) O (loc' := [(2, .int (-1)), (1, .int 0), (0, rf X.1 p0)]) dX1_bestToWrite_3 rfl (by decide) rfl ?_
  refine s_iconst (pc := 4) O (v := 1) dX1_bestToWrite_4 (by decide) ?_
  refine s_istore_n (pc := 5) O (loc' := [(3, .int 1), (2, .int (-1)), (1, .int 0), (0, rf X.1 p0)]) dX1_bestToWrite_5 rfl (by decide) rfl ?_
  exact s_sub (pc := 6) O [3, 2, 1, 0] rfl (l_X1_bestToWrite_6 O hi hn h hK)

def f_X1_canBeSaid (M : MM) (p0 : Nat) (a1 : Int32) : Option (Int32) :=
  if p0 < M.1 ∧ kd p0 = 1 then (if a1 ≤ 0 then (some 0) else (if (1000 : Int32) ≤ a1 then (some 0) else ((fR M p0 1 0).bind fun v1 => (aZ M v1 a1).bind fun v2 => if v2 = 0 then (some 0) else (some 1)))) else none
theorem r_X1_canBeSaid {M : MM} {p0 : Nat} {a1 : Int32} {o : Int32} (h : f_X1_canBeSaid M p0 a1 = some o) : p0 < M.1 ∧ kd p0 = 1 := by
  unfold f_X1_canBeSaid at h
  exact (gd h).1
theorem cy_X1_canBeSaid : CallY yX1_canBeSaid cX1_canBeSaid 2 (some .boolean) 1 := ⟨by decide +kernel, tw_434, tw_42, by decide⟩
set_option maxHeartbeats 4000000 in
set_option maxRecDepth 100000 in
theorem c_X1_canBeSaid {G : GG} {M : MM} {p0 : Nat} {a1 : Int32} {r : Int32} (h : f_X1_canBeSaid M p0 a1 = some r) : Ct G yX1_canBeSaid cX1_canBeSaid 2 (some .boolean) 0 [rf G p0, .int a1] M (some (.int r)) M := by
  refine ct_of (by decide +kernel) (Nat.le_of_ble_eq_true rfl) (fun X hX O hK hi0 => ?_)
  subst hX
  obtain ⟨lim, hlim⟩ : ∃ z, z = M.1 := ⟨_, rfl⟩
  rw [← hlim] at O
  replace O : OKX X cX1_canBeSaid RX1 0 lim 2 := O
  have hi : True := trivial
  have hn : M.1 ≤ lim := Nat.le_of_eq hlim.symm
  show WS X M 0 [(0, rf X.1 p0), (1, .int a1)] []
  unfold f_X1_canBeSaid at h
  obtain ⟨hg0, h⟩ := gd h
  refine s_iload_n (pc := 0) O dX1_canBeSaid_0 rfl 1 rfl ?_
  refine s_if_le (pc := 1) O (tgt := 24) dX1_canBeSaid_1 (by decide) (fun c => ?_) (fun c => ?_)
  · have h := ifp c h
    refine s_iconst (pc := 24) O (v := 0) dX1_canBeSaid_24 (by decide) ?_
    cases h
    exact s_zret (pc := 25) O (by decide) hK dX1_canBeSaid_25
  · have h := ifn c h
    refine s_iload_n (pc := 4) O dX1_canBeSaid_4 rfl 1 rfl ?_
    refine s_sipush (pc := 5) O (v := 1000) dX1_canBeSaid_5 (by decide) ?_
    refine s_icmp_ge (pc := 8) O (tgt := 24) dX1_canBeSaid_8 (by decide) (fun c => ?_) (fun c => ?_)
    · have h := ifp c h
      refine s_iconst (pc := 24) O (v := 0) dX1_canBeSaid_24 (by decide) ?_
      cases h
      exact s_zret (pc := 25) O (by decide) hK dX1_canBeSaid_25
    · have h := ifn c h
      refine s_aload_n (pc := 11) O dX1_canBeSaid_11 rfl 0 rfl ?_
      obtain ⟨v1, e, h⟩ := bd h
      refine s_getR (pc := 12) O kc1 (k := 0) rfl tw_101 e dX1_canBeSaid_12 ?_
      refine s_iload_n (pc := 15) O dX1_canBeSaid_15 rfl 1 rfl ?_
      obtain ⟨v2, e, h⟩ := bd h
      refine s_aldZ (pc := 16) O e dX1_canBeSaid_16 ?_
      refine s_if_eq (pc := 17) O (tgt := 24) dX1_canBeSaid_17 (by decide) (fun c => ?_) (fun c => ?_)
      · have h := ifp c h
        refine s_iconst (pc := 24) O (v := 0) dX1_canBeSaid_24 (by decide) ?_
        cases h
        exact s_zret (pc := 25) O (by decide) hK dX1_canBeSaid_25
      · have h := ifn c h
        refine s_iconst (pc := 20) O (v := 1) dX1_canBeSaid_20 (by decide) ?_
        refine s_goto (pc := 21) O (tgt := 25) dX1_canBeSaid_21 (by decide) ?_
        cases h
        exact s_zret (pc := 25) O (by decide) hK dX1_canBeSaid_25

def j_X1_countMute_32 (M : MM) (p0 : Nat) (a1 : Int32) (a2 : Int32) : Option ((Int32) ⊕ (Int32 × Int32)) :=
  some ((.inr (a1, (a2 + 1))))
set_option maxHeartbeats 4000000 in
set_option maxRecDepth 100000 in
theorem g_X1_countMute_32 {X : CT} {lim : Nat} {M : MM} {p0 : Nat} {a1 : Int32} {a2 : Int32} (O : OKX X cX1_countMute RX1 0 lim 3) (hi : True) (hn : M.1 ≤ lim) {o : (Int32) ⊕ (Int32 × Int32)} (h : j_X1_countMute_32 M p0 a1 a2 = some o) (hK : (KI (fun (q : Int32) => RTX X (some .int) (some (.int q)) M) (fun (t : Int32 × Int32) => WS X M 4 [(0, rf X.1 p0), (1, .int t.1), (2, .int t.2)] [])) o) : WS X M 32 [(0, rf X.1 p0), (1, .int a1), (2, .int a2)] [] := by
  unfold j_X1_countMute_32 at h
  refine s_iinc (pc := 32) O (v := (a2 + 1)) (loc' := [(2, .int (a2 + 1)), (0, rf X.1 p0), (1, .int a1)]) dX1_countMute_32 2 rfl rfl (by decide) rfl ?_
  refine s_goto (pc := 35) O (tgt := 4) dX1_countMute_35 (by decide) ?_
  cases h
  exact s_sub (pc := 4) O [1, 2, 0] rfl hK
def z_X1_countMute_4 (M : MM) (p0 : Nat) (a1 : Int32) (a2 : Int32) : Option ((Int32) ⊕ (Int32 × Int32)) :=
  if (1000 : Int32) ≤ a2 then (some ((.inl a1))) else ((fR M p0 1 0).bind fun v1 => (aZ M v1 a2).bind fun v2 => if v2 = 0 then (j_X1_countMute_32 M p0 a1 a2) else ((fR M p0 1 7).bind fun v3 => (aI M v3 a2).bind fun v4 => if v4 = 0 then (j_X1_countMute_32 M p0 ((a1 + 1)) a2) else (j_X1_countMute_32 M p0 a1 a2)))
set_option maxHeartbeats 4000000 in
set_option maxRecDepth 100000 in
theorem b_X1_countMute_4 {X : CT} {lim : Nat} {M : MM} {p0 : Nat} {a1 : Int32} {a2 : Int32} (O : OKX X cX1_countMute RX1 0 lim 3) (hi : True) (hn : M.1 ≤ lim) {o : (Int32) ⊕ (Int32 × Int32)} (h : z_X1_countMute_4 M p0 a1 a2 = some o) (hK : (KI (fun (q : Int32) => RTX X (some .int) (some (.int q)) M) (fun (t : Int32 × Int32) => WS X M 4 [(0, rf X.1 p0), (1, .int t.1), (2, .int t.2)] [])) o) : WS X M 4 [(0, rf X.1 p0), (1, .int a1), (2, .int a2)] [] := by
  unfold z_X1_countMute_4 at h
  refine s_iload_n (pc := 4) O dX1_countMute_4 rfl 2 rfl ?_
  refine s_sipush (pc := 5) O (v := 1000) dX1_countMute_5 (by decide) ?_
  refine s_icmp_ge (pc := 8) O (tgt := 38) dX1_countMute_8 (by decide) (fun c => ?_) (fun c => ?_)
  · have h := ifp c h
    refine s_iload_n (pc := 38) O dX1_countMute_38 rfl 1 rfl ?_
    cases h
    exact s_iret (pc := 39) O hK dX1_countMute_39
  · have h := ifn c h
    refine s_aload_n (pc := 11) O dX1_countMute_11 rfl 0 rfl ?_
    obtain ⟨v1, e, h⟩ := bd h
    refine s_getR (pc := 12) O kc1 (k := 0) rfl tw_101 e dX1_countMute_12 ?_
    refine s_iload_n (pc := 15) O dX1_countMute_15 rfl 2 rfl ?_
    obtain ⟨v2, e, h⟩ := bd h
    refine s_aldZ (pc := 16) O e dX1_countMute_16 ?_
    refine s_if_eq (pc := 17) O (tgt := 32) dX1_countMute_17 (by decide) (fun c => ?_) (fun c => ?_)
    · have h := ifp c h
      exact s_sub (pc := 32) O [0, 1, 2] rfl (g_X1_countMute_32 O hi hn h hK)
    · have h := ifn c h
      refine s_aload_n (pc := 20) O dX1_countMute_20 rfl 0 rfl ?_
      obtain ⟨v3, e, h⟩ := bd h
      refine s_getR (pc := 21) O kc1 (k := 7) rfl tw_111 e dX1_countMute_21 ?_
      refine s_iload_n (pc := 24) O dX1_countMute_24 rfl 2 rfl ?_
      obtain ⟨v4, e, h⟩ := bd h
      refine s_aldI (pc := 25) O e dX1_countMute_25 ?_
      refine s_if_ne (pc := 26) O (tgt := 32) dX1_countMute_26 (by decide) (fun c => ?_) (fun c => ?_)
      · have h := ifn c h
        exact s_sub (pc := 32) O [0, 1, 2] rfl (g_X1_countMute_32 O hi hn h hK)
      · have h := ifp c h
        refine s_iinc (pc := 29) O (v := (a1 + 1)) (loc' := [(1, .int (a1 + 1)), (0, rf X.1 p0), (2, .int a2)]) dX1_countMute_29 1 rfl rfl (by decide) rfl ?_
        exact s_sub (pc := 32) O [1, 0, 2] rfl (g_X1_countMute_32 O hi hn h hK)
set_option maxHeartbeats 4000000 in
set_option maxRecDepth 100000 in
theorem l_X1_countMute_4 {X : CT} {lim : Nat} {M : MM} {p0 : Nat} {a1 : Int32} {a2 : Int32} (O : OKX X cX1_countMute RX1 0 lim 3) (hi : True) (hn : M.1 ≤ lim) {o : Int32} {n : Nat} (h : lp (fun t => z_X1_countMute_4 M p0 t.1 t.2) n (a1, a2) = some o) (hK : (fun (q : Int32) => RTX X (some .int) (some (.int q)) M) o) : WS X M 4 [(0, rf X.1 p0), (1, .int a1), (2, .int a2)] [] := by
  refine lp_ind (P := fun (o : Int32) (t : Int32 × Int32) => (fun (q : Int32) => RTX X (some .int) (some (.int q)) M) o → WS X M 4 [(0, rf X.1 p0), (1, .int t.1), (2, .int t.2)] []) (fun t o hs  hK => ?_) n (a1, a2) o h  hK
  rcases hs with h | ⟨u, h, hu⟩
  · exact b_X1_countMute_4 O hi hn h hK
  · exact b_X1_countMute_4 O hi hn h (show KI _ _ (.inr u) from hu hK)
def f_X1_countMute (M : MM) (p0 : Nat) : Option (Int32) :=
  if p0 < M.1 ∧ kd p0 = 1 then (lp (fun t => z_X1_countMute_4 M p0 t.1 t.2) FU (0, 1)) else none
theorem r_X1_countMute {M : MM} {p0 : Nat} {o : Int32} (h : f_X1_countMute M p0 = some o) : p0 < M.1 ∧ kd p0 = 1 := by
  unfold f_X1_countMute at h
  exact (gd h).1
theorem cy_X1_countMute : CallY yX1_countMute cX1_countMute 3 (some .int) 0 := ⟨by decide +kernel, tw_512, tw_42, by decide⟩
set_option maxHeartbeats 4000000 in
set_option maxRecDepth 100000 in
theorem c_X1_countMute {G : GG} {M : MM} {p0 : Nat} {r : Int32} (h : f_X1_countMute M p0 = some r) : Ct G yX1_countMute cX1_countMute 3 (some .int) 0 [rf G p0] M (some (.int r)) M := by
  refine ct_of (by decide +kernel) (Nat.le_of_ble_eq_true rfl) (fun X hX O hK hi0 => ?_)
  subst hX
  obtain ⟨lim, hlim⟩ : ∃ z, z = M.1 := ⟨_, rfl⟩
  rw [← hlim] at O
  replace O : OKX X cX1_countMute RX1 0 lim 3 := O
  have hi : True := trivial
  have hn : M.1 ≤ lim := Nat.le_of_eq hlim.symm
  show WS X M 0 [(0, rf X.1 p0)] []
  unfold f_X1_countMute at h
  obtain ⟨hg0, h⟩ := gd h
  refine s_iconst (pc := 0) O (v := 0) dX1_countMute_0 (by decide) ?_
  refine s_istore_n (pc := 1) O (loc' := [(1, .int 0), (0, rf X.1 p0)]) dX1_countMute_1 rfl (by decide) rfl ?_
  refine s_iconst (pc := 2) O (v := 1) dX1_countMute_2 (by decide) ?_
  refine s_istore_n (pc := 3) O (loc' := [(2, .int 1), (1, .int 0), (0, rf X.1 p0)]) dX1_countMute_3 rfl (by decide) rfl ?_
  exact s_sub (pc := 4) O [2, 1, 0] rfl (l_X1_countMute_4 O hi hn h hK)

def f_X1_countOf (M : MM) (p0 : Nat) (a1 : Int32) (a2 : Int32) : Option (Int32) :=
  if p0 < M.1 ∧ kd p0 = 1 then ((fR M p0 1 5).bind fun v1 => (aJ M v1 a1).bind fun v2 => some (((((v2 : Int64).toUInt64 >>> (((8 * a2) : Int32).toInt64.toUInt64 &&& Int64.toUInt64 63)).toInt64 : Int64).toInt32 &&& 255))) else none
theorem r_X1_countOf {M : MM} {p0 : Nat} {a1 : Int32} {a2 : Int32} {o : Int32} (h : f_X1_countOf M p0 a1 a2 = some o) : p0 < M.1 ∧ kd p0 = 1 := by
  unfold f_X1_countOf at h
  exact (gd h).1
theorem cy_X1_countOf : CallY yX1_countOf cX1_countOf 3 (some .int) 2 := ⟨by decide +kernel, tw_442, tw_42, by decide⟩
set_option maxHeartbeats 4000000 in
set_option maxRecDepth 100000 in
theorem c_X1_countOf {G : GG} {M : MM} {p0 : Nat} {a1 : Int32} {a2 : Int32} {r : Int32} (h : f_X1_countOf M p0 a1 a2 = some r) : Ct G yX1_countOf cX1_countOf 3 (some .int) 0 [rf G p0, .int a1, .int a2] M (some (.int r)) M := by
  refine ct_of (by decide +kernel) (Nat.le_of_ble_eq_true rfl) (fun X hX O hK hi0 => ?_)
  subst hX
  obtain ⟨lim, hlim⟩ : ∃ z, z = M.1 := ⟨_, rfl⟩
  rw [← hlim] at O
  replace O : OKX X cX1_countOf RX1 0 lim 3 := O
  have hi : True := trivial
  have hn : M.1 ≤ lim := Nat.le_of_eq hlim.symm
  show WS X M 0 [(0, rf X.1 p0), (1, .int a1), (2, .int a2)] []
  unfold f_X1_countOf at h
  obtain ⟨hg0, h⟩ := gd h
  refine s_aload_n (pc := 0) O dX1_countOf_0 rfl 0 rfl ?_
  obtain ⟨v1, e, h⟩ := bd h
  refine s_getR (pc := 1) O kc1 (k := 5) rfl tw_109 e dX1_countOf_1 ?_
  refine s_iload_n (pc := 4) O dX1_countOf_4 rfl 1 rfl ?_
  obtain ⟨v2, e, h⟩ := bd h
  refine s_aldJ (pc := 5) O e dX1_countOf_5 ?_
  refine s_bipush (pc := 6) O (v := 8) dX1_countOf_6 (by decide) ?_
  refine s_iload_n (pc := 8) O dX1_countOf_8 rfl 2 rfl ?_
  refine s_imul (pc := 9) O dX1_countOf_9 ?_
  refine s_lushr (pc := 10) O dX1_countOf_10 ?_
  refine s_l2i (pc := 11) O dX1_countOf_11 ?_
  refine s_sipush (pc := 12) O (v := 255) dX1_countOf_12 (by decide) ?_
  refine s_iand (pc := 15) O dX1_countOf_15 ?_
  cases h
  exact s_iret (pc := 16) O hK dX1_countOf_16

def j_X1_countWithin_28 (M : MM) (p0 : Nat) (a1 : Int32) (a2 : Int32) (a3 : Int32) : Option ((Int32) ⊕ (Int32 × Int32)) :=
  some ((.inr (a2, (a3 + 1))))
set_option maxHeartbeats 4000000 in
set_option maxRecDepth 100000 in
theorem g_X1_countWithin_28 {X : CT} {lim : Nat} {M : MM} {p0 : Nat} {a1 : Int32} {a2 : Int32} {a3 : Int32} (O : OKX X cX1_countWithin RX1 0 lim 4) (hi : True) (hn : M.1 ≤ lim) {o : (Int32) ⊕ (Int32 × Int32)} (h : j_X1_countWithin_28 M p0 a1 a2 a3 = some o) (hK : (KI (fun (q : Int32) => RTX X (some .int) (some (.int q)) M) (fun (t : Int32 × Int32) => WS X M 4 [(0, rf X.1 p0), (1, .int a1), (2, .int t.1), (3, .int t.2)] [])) o) : WS X M 28 [(0, rf X.1 p0), (1, .int a1), (2, .int a2), (3, .int a3)] [] := by
  unfold j_X1_countWithin_28 at h
  refine s_iinc (pc := 28) O (v := (a3 + 1)) (loc' := [(3, .int (a3 + 1)), (0, rf X.1 p0), (1, .int a1), (2, .int a2)]) dX1_countWithin_28 3 rfl rfl (by decide) rfl ?_
  refine s_goto (pc := 31) O (tgt := 4) dX1_countWithin_31 (by decide) ?_
  cases h
  exact s_sub (pc := 4) O [1, 2, 3, 0] rfl hK
def z_X1_countWithin_4 (M : MM) (p0 : Nat) (a1 : Int32) (a2 : Int32) (a3 : Int32) : Option ((Int32) ⊕ (Int32 × Int32)) :=
  if (256 : Int32) ≤ a3 then (some ((.inl a2))) else (if (a3 &&& (a1 ^^^ (-1))) = 0 then ((fR M p0 1 8).bind fun v1 => (aI M v1 a3).bind fun v2 => j_X1_countWithin_28 M p0 a1 ((a2 + v2)) a3) else (j_X1_countWithin_28 M p0 a1 a2 a3))
set_option maxHeartbeats 4000000 in
set_option maxRecDepth 100000 in
theorem b_X1_countWithin_4 {X : CT} {lim : Nat} {M : MM} {p0 : Nat} {a1 : Int32} {a2 : Int32} {a3 : Int32} (O : OKX X cX1_countWithin RX1 0 lim 4) (hi : True) (hn : M.1 ≤ lim) {o : (Int32) ⊕ (Int32 × Int32)} (h : z_X1_countWithin_4 M p0 a1 a2 a3 = some o) (hK : (KI (fun (q : Int32) => RTX X (some .int) (some (.int q)) M) (fun (t : Int32 × Int32) => WS X M 4 [(0, rf X.1 p0), (1, .int a1), (2, .int t.1), (3, .int t.2)] [])) o) : WS X M 4 [(0, rf X.1 p0), (1, .int a1), (2, .int a2), (3, .int a3)] [] := by
  unfold z_X1_countWithin_4 at h
  refine s_iload_n (pc := 4) O dX1_countWithin_4 rfl 3 rfl ?_
  refine s_sipush (pc := 5) O (v := 256) dX1_countWithin_5 (by decide) ?_
  refine s_icmp_ge (pc := 8) O (tgt := 34) dX1_countWithin_8 (by decide) (fun c => ?_) (fun c => ?_)
  · have h := ifp c h
    refine s_iload_n (pc := 34) O dX1_countWithin_34 rfl 2 rfl ?_
    cases h
    exact s_iret (pc := 35) O hK dX1_countWithin_35
  · have h := ifn c h
    refine s_iload_n (pc := 11) O dX1_countWithin_11 rfl 3 rfl ?_
    refine s_iload_n (pc := 12) O dX1_countWithin_12 rfl 1 rfl ?_
    refine s_iconst (pc := 13) O (v := (-1)) dX1_countWithin_13 (by decide) ?_
    refine s_ixor (pc := 14) O dX1_countWithin_14 ?_
    refine s_iand (pc := 15) O dX1_countWithin_15 ?_
    refine s_if_ne (pc := 16) O (tgt := 28) dX1_countWithin_16 (by decide) (fun c => ?_) (fun c => ?_)
    · have h := ifn c h
      exact s_sub (pc := 28) O [0, 1, 2, 3] rfl (g_X1_countWithin_28 O hi hn h hK)
    · have h := ifp c h
      refine s_iload_n (pc := 19) O dX1_countWithin_19 rfl 2 rfl ?_
      refine s_aload_n (pc := 20) O dX1_countWithin_20 rfl 0 rfl ?_
      obtain ⟨v1, e, h⟩ := bd h
      refine s_getR (pc := 21) O kc1 (k := 8) rfl tw_113 e dX1_countWithin_21 ?_
      refine s_iload_n (pc := 24) O dX1_countWithin_24 rfl 3 rfl ?_
      obtain ⟨v2, e, h⟩ := bd h
      refine s_aldI (pc := 25) O e dX1_countWithin_25 ?_
      refine s_iadd (pc := 26) O dX1_countWithin_26 ?_
      refine s_istore_n (pc := 27) O (loc' := [(2, .int (a2 + v2)), (0, rf X.1 p0), (1, .int a1), (3, .int a3)]) dX1_countWithin_27 rfl (by decide) rfl ?_
      exact s_sub (pc := 28) O [1, 2, 0, 3] rfl (g_X1_countWithin_28 O hi hn h hK)
set_option maxHeartbeats 4000000 in
set_option maxRecDepth 100000 in
theorem l_X1_countWithin_4 {X : CT} {lim : Nat} {M : MM} {p0 : Nat} {a1 : Int32} {a2 : Int32} {a3 : Int32} (O : OKX X cX1_countWithin RX1 0 lim 4) (hi : True) (hn : M.1 ≤ lim) {o : Int32} {n : Nat} (h : lp (fun t => z_X1_countWithin_4 M p0 a1 t.1 t.2) n (a2, a3) = some o) (hK : (fun (q : Int32) => RTX X (some .int) (some (.int q)) M) o) : WS X M 4 [(0, rf X.1 p0), (1, .int a1), (2, .int a2), (3, .int a3)] [] := by
  refine lp_ind (P := fun (o : Int32) (t : Int32 × Int32) => (fun (q : Int32) => RTX X (some .int) (some (.int q)) M) o → WS X M 4 [(0, rf X.1 p0), (1, .int a1), (2, .int t.1), (3, .int t.2)] []) (fun t o hs  hK => ?_) n (a2, a3) o h  hK
  rcases hs with h | ⟨u, h, hu⟩
  · exact b_X1_countWithin_4 O hi hn h hK
  · exact b_X1_countWithin_4 O hi hn h (show KI _ _ (.inr u) from hu hK)
def f_X1_countWithin (M : MM) (p0 : Nat) (a1 : Int32) : Option (Int32) :=
  if p0 < M.1 ∧ kd p0 = 1 then (lp (fun t => z_X1_countWithin_4 M p0 a1 t.1 t.2) FU (0, 0)) else none
theorem r_X1_countWithin {M : MM} {p0 : Nat} {a1 : Int32} {o : Int32} (h : f_X1_countWithin M p0 a1 = some o) : p0 < M.1 ∧ kd p0 = 1 := by
  unfold f_X1_countWithin at h
  exact (gd h).1
theorem cy_X1_countWithin : CallY yX1_countWithin cX1_countWithin 4 (some .int) 1 := ⟨by decide +kernel, tw_566, tw_42, by decide⟩
set_option maxHeartbeats 4000000 in
set_option maxRecDepth 100000 in
theorem c_X1_countWithin {G : GG} {M : MM} {p0 : Nat} {a1 : Int32} {r : Int32} (h : f_X1_countWithin M p0 a1 = some r) : Ct G yX1_countWithin cX1_countWithin 4 (some .int) 0 [rf G p0, .int a1] M (some (.int r)) M := by
  refine ct_of (by decide +kernel) (Nat.le_of_ble_eq_true rfl) (fun X hX O hK hi0 => ?_)
  subst hX
  obtain ⟨lim, hlim⟩ : ∃ z, z = M.1 := ⟨_, rfl⟩
  rw [← hlim] at O
  replace O : OKX X cX1_countWithin RX1 0 lim 4 := O
  have hi : True := trivial
  have hn : M.1 ≤ lim := Nat.le_of_eq hlim.symm
  show WS X M 0 [(0, rf X.1 p0), (1, .int a1)] []
  unfold f_X1_countWithin at h
  obtain ⟨hg0, h⟩ := gd h
  refine s_iconst (pc := 0) O (v := 0) dX1_countWithin_0 (by decide) ?_
  refine s_istore_n (pc := 1) O (loc' := [(2, .int 0), (0, rf X.1 p0), (1, .int a1)]) dX1_countWithin_1 rfl (by decide) rfl ?_
  refine s_iconst (pc := 2) O (v := 0) dX1_countWithin_2 (by decide) ?_
  refine s_istore_n (pc := 3) O (loc' := [(3, .int 0), (2, .int 0), (0, rf X.1 p0), (1, .int a1)]) dX1_countWithin_3 rfl (by decide) rfl ?_
  exact s_sub (pc := 4) O [2, 3, 1, 0] rfl (l_X1_countWithin_4 O hi hn h hK)

def j_X1_firstMute_29 (M : MM) (p0 : Nat) (a1 : Int32) : Option ((Int32) ⊕ (Int32)) :=
  some ((.inr ((a1 + 1))))
set_option maxHeartbeats 4000000 in
set_option maxRecDepth 100000 in
theorem g_X1_firstMute_29 {X : CT} {lim : Nat} {M : MM} {p0 : Nat} {a1 : Int32} (O : OKX X cX1_firstMute RX1 0 lim 2) (hi : True) (hn : M.1 ≤ lim) {o : (Int32) ⊕ (Int32)} (h : j_X1_firstMute_29 M p0 a1 = some o) (hK : (KI (fun (q : Int32) => RTX X (some .int) (some (.int q)) M) (fun (t : Int32) => WS X M 2 [(0, rf X.1 p0), (1, .int t)] [])) o) : WS X M 29 [(0, rf X.1 p0), (1, .int a1)] [] := by
  unfold j_X1_firstMute_29 at h
  refine s_iinc (pc := 29) O (v := (a1 + 1)) (loc' := [(1, .int (a1 + 1)), (0, rf X.1 p0)]) dX1_firstMute_29 1 rfl rfl (by decide) rfl ?_
  refine s_goto (pc := 32) O (tgt := 2) dX1_firstMute_32 (by decide) ?_
  cases h
  exact s_sub (pc := 2) O [1, 0] rfl hK
def z_X1_firstMute_2 (M : MM) (p0 : Nat) (a1 : Int32) : Option ((Int32) ⊕ (Int32)) :=
  if (1000 : Int32) ≤ a1 then (some ((.inl (-9)))) else ((fR M p0 1 0).bind fun v1 => (aZ M v1 a1).bind fun v2 => if v2 = 0 then (j_X1_firstMute_29 M p0 a1) else ((fR M p0 1 7).bind fun v3 => (aI M v3 a1).bind fun v4 => if v4 = 0 then (some ((.inl a1))) else (j_X1_firstMute_29 M p0 a1)))
set_option maxHeartbeats 4000000 in
set_option maxRecDepth 100000 in
theorem b_X1_firstMute_2 {X : CT} {lim : Nat} {M : MM} {p0 : Nat} {a1 : Int32} (O : OKX X cX1_firstMute RX1 0 lim 2) (hi : True) (hn : M.1 ≤ lim) {o : (Int32) ⊕ (Int32)} (h : z_X1_firstMute_2 M p0 a1 = some o) (hK : (KI (fun (q : Int32) => RTX X (some .int) (some (.int q)) M) (fun (t : Int32) => WS X M 2 [(0, rf X.1 p0), (1, .int t)] [])) o) : WS X M 2 [(0, rf X.1 p0), (1, .int a1)] [] := by
  unfold z_X1_firstMute_2 at h
  refine s_iload_n (pc := 2) O dX1_firstMute_2 rfl 1 rfl ?_
  refine s_sipush (pc := 3) O (v := 1000) dX1_firstMute_3 (by decide) ?_
  refine s_icmp_ge (pc := 6) O (tgt := 35) dX1_firstMute_6 (by decide) (fun c => ?_) (fun c => ?_)
  · have h := ifp c h
    refine s_bipush (pc := 35) O (v := (-9)) dX1_firstMute_35 (by decide) ?_
    cases h
    exact s_iret (pc := 37) O hK dX1_firstMute_37
  · have h := ifn c h
    refine s_aload_n (pc := 9) O dX1_firstMute_9 rfl 0 rfl ?_
    obtain ⟨v1, e, h⟩ := bd h
    refine s_getR (pc := 10) O kc1 (k := 0) rfl tw_101 e dX1_firstMute_10 ?_
    refine s_iload_n (pc := 13) O dX1_firstMute_13 rfl 1 rfl ?_
    obtain ⟨v2, e, h⟩ := bd h
    refine s_aldZ (pc := 14) O e dX1_firstMute_14 ?_
    refine s_if_eq (pc := 15) O (tgt := 29) dX1_firstMute_15 (by decide) (fun c => ?_) (fun c => ?_)
    · have h := ifp c h
      exact s_sub (pc := 29) O [0, 1] rfl (g_X1_firstMute_29 O hi hn h hK)
    · have h := ifn c h
      refine s_aload_n (pc := 18) O dX1_firstMute_18 rfl 0 rfl ?_
      obtain ⟨v3, e, h⟩ := bd h
      refine s_getR (pc := 19) O kc1 (k := 7) rfl tw_111 e dX1_firstMute_19 ?_
      refine s_iload_n (pc := 22) O dX1_firstMute_22 rfl 1 rfl ?_
      obtain ⟨v4, e, h⟩ := bd h
      refine s_aldI (pc := 23) O e dX1_firstMute_23 ?_
      refine s_if_ne (pc := 24) O (tgt := 29) dX1_firstMute_24 (by decide) (fun c => ?_) (fun c => ?_)
      · have h := ifn c h
        exact s_sub (pc := 29) O [0, 1] rfl (g_X1_firstMute_29 O hi hn h hK)
      · have h := ifp c h
        refine s_iload_n (pc := 27) O dX1_firstMute_27 rfl 1 rfl ?_
        cases h
        exact s_iret (pc := 28) O hK dX1_firstMute_28
set_option maxHeartbeats 4000000 in
set_option maxRecDepth 100000 in
theorem l_X1_firstMute_2 {X : CT} {lim : Nat} {M : MM} {p0 : Nat} {a1 : Int32} (O : OKX X cX1_firstMute RX1 0 lim 2) (hi : True) (hn : M.1 ≤ lim) {o : Int32} {n : Nat} (h : lp (fun t => z_X1_firstMute_2 M p0 t) n (a1) = some o) (hK : (fun (q : Int32) => RTX X (some .int) (some (.int q)) M) o) : WS X M 2 [(0, rf X.1 p0), (1, .int a1)] [] := by
  refine lp_ind (P := fun (o : Int32) (t : Int32) => (fun (q : Int32) => RTX X (some .int) (some (.int q)) M) o → WS X M 2 [(0, rf X.1 p0), (1, .int t)] []) (fun t o hs  hK => ?_) n (a1) o h  hK
  rcases hs with h | ⟨u, h, hu⟩
  · exact b_X1_firstMute_2 O hi hn h hK
  · exact b_X1_firstMute_2 O hi hn h (show KI _ _ (.inr u) from hu hK)
def f_X1_firstMute (M : MM) (p0 : Nat) : Option (Int32) :=
  if p0 < M.1 ∧ kd p0 = 1 then (lp (fun t => z_X1_firstMute_2 M p0 t) FU (1)) else none
theorem r_X1_firstMute {M : MM} {p0 : Nat} {o : Int32} (h : f_X1_firstMute M p0 = some o) : p0 < M.1 ∧ kd p0 = 1 := by
  unfold f_X1_firstMute at h
  exact (gd h).1
theorem cy_X1_firstMute : CallY yX1_firstMute cX1_firstMute 2 (some .int) 0 := ⟨by decide +kernel, tw_516, tw_42, by decide⟩
set_option maxHeartbeats 4000000 in
set_option maxRecDepth 100000 in
theorem c_X1_firstMute {G : GG} {M : MM} {p0 : Nat} {r : Int32} (h : f_X1_firstMute M p0 = some r) : Ct G yX1_firstMute cX1_firstMute 2 (some .int) 0 [rf G p0] M (some (.int r)) M := by
  refine ct_of (by decide +kernel) (Nat.le_of_ble_eq_true rfl) (fun X hX O hK hi0 => ?_)
  subst hX
  obtain ⟨lim, hlim⟩ : ∃ z, z = M.1 := ⟨_, rfl⟩
  rw [← hlim] at O
  replace O : OKX X cX1_firstMute RX1 0 lim 2 := O
  have hi : True := trivial
  have hn : M.1 ≤ lim := Nat.le_of_eq hlim.symm
  show WS X M 0 [(0, rf X.1 p0)] []
  unfold f_X1_firstMute at h
  obtain ⟨hg0, h⟩ := gd h
  refine s_iconst (pc := 0) O (v := 1) dX1_firstMute_0 (by decide) ?_
  refine s_istore_n (pc := 1) O (loc' := [(1, .int 1), (0, rf X.1 p0)]) dX1_firstMute_1 rfl (by decide) rfl ?_
  exact s_sub (pc := 2) O [1, 0] rfl (l_X1_firstMute_2 O hi hn h hK)

def z_X1_follow_5 (M : MM) (p0 : Nat) (a2 : Int32) (a3 : Int32) (a4 : Int32) : Option ((Int32) ⊕ (Int32 × Int32)) :=
  if a2 ≤ a4 then (some ((.inl a3))) else ((fR M p0 1 7).bind fun v1 => (aI M v1 a3).bind fun v2 => if v2 = 0 then (some ((.inl (-9)))) else (some ((.inr (v2, (a4 + 1))))))
set_option maxHeartbeats 4000000 in
set_option maxRecDepth 100000 in
theorem b_X1_follow_5 {X : CT} {lim : Nat} {M : MM} {p0 : Nat} {a2 : Int32} {a3 : Int32} {a4 : Int32} (O : OKX X cX1_follow RX1 0 lim 5) (hi : True) (hn : M.1 ≤ lim) {o : (Int32) ⊕ (Int32 × Int32)} (h : z_X1_follow_5 M p0 a2 a3 a4 = some o) (hK : (KI (fun (q : Int32) => RTX X (some .int) (some (.int q)) M) (fun (t : Int32 × Int32) => WS X M 5 [(0, rf X.1 p0), (2, .int a2), (3, .int t.1), (4, .int t.2)] [])) o) : WS X M 5 [(0, rf X.1 p0), (2, .int a2), (3, .int a3), (4, .int a4)] [] := by
  unfold z_X1_follow_5 at h
  refine s_iload (pc := 5) O dX1_follow_5 3 rfl ?_
  refine s_iload_n (pc := 7) O dX1_follow_7 rfl 1 rfl ?_
  refine s_icmp_ge (pc := 8) O (tgt := 31) dX1_follow_8 (by decide) (fun c => ?_) (fun c => ?_)
  · have h := ifp c h
    refine s_iload_n (pc := 31) O dX1_follow_31 rfl 2 rfl ?_
    cases h
    exact s_iret (pc := 32) O hK dX1_follow_32
  · have h := ifn c h
    refine s_aload_n (pc := 11) O dX1_follow_11 rfl 0 rfl ?_
    obtain ⟨v1, e, h⟩ := bd h
    refine s_getR (pc := 12) O kc1 (k := 7) rfl tw_111 e dX1_follow_12 ?_
    refine s_iload_n (pc := 15) O dX1_follow_15 rfl 2 rfl ?_
    obtain ⟨v2, e, h⟩ := bd h
    refine s_aldI (pc := 16) O e dX1_follow_16 ?_
    refine s_istore_n (pc := 17) O (loc' := [(3, .int v2), (0, rf X.1 p0), (2, .int a2), (4, .int a4)]) dX1_follow_17 rfl (by decide) rfl ?_
    refine s_iload_n (pc := 18) O dX1_follow_18 rfl 0 rfl ?_
    refine s_if_ne (pc := 19) O (tgt := 25) dX1_follow_19 (by decide) (fun c => ?_) (fun c => ?_)
    · have h := ifn c h
      refine s_iinc (pc := 25) O (v := (a4 + 1)) (loc' := [(4, .int (a4 + 1)), (3, .int v2), (0, rf X.1 p0), (2, .int a2)]) dX1_follow_25 3 rfl rfl (by decide) rfl ?_
      refine s_goto (pc := 28) O (tgt := 5) dX1_follow_28 (by decide) ?_
      cases h
      exact s_sub (pc := 5) O [2, 3, 1, 0] rfl hK
    · have h := ifp c h
      refine s_bipush (pc := 22) O (v := (-9)) dX1_follow_22 (by decide) ?_
      cases h
      exact s_iret (pc := 24) O hK dX1_follow_24
set_option maxHeartbeats 4000000 in
set_option maxRecDepth 100000 in
theorem l_X1_follow_5 {X : CT} {lim : Nat} {M : MM} {p0 : Nat} {a2 : Int32} {a3 : Int32} {a4 : Int32} (O : OKX X cX1_follow RX1 0 lim 5) (hi : True) (hn : M.1 ≤ lim) {o : Int32} {n : Nat} (h : lp (fun t => z_X1_follow_5 M p0 a2 t.1 t.2) n (a3, a4) = some o) (hK : (fun (q : Int32) => RTX X (some .int) (some (.int q)) M) o) : WS X M 5 [(0, rf X.1 p0), (2, .int a2), (3, .int a3), (4, .int a4)] [] := by
  refine lp_ind (P := fun (o : Int32) (t : Int32 × Int32) => (fun (q : Int32) => RTX X (some .int) (some (.int q)) M) o → WS X M 5 [(0, rf X.1 p0), (2, .int a2), (3, .int t.1), (4, .int t.2)] []) (fun t o hs  hK => ?_) n (a3, a4) o h  hK
  rcases hs with h | ⟨u, h, hu⟩
  · exact b_X1_follow_5 O hi hn h hK
  · exact b_X1_follow_5 O hi hn h (show KI _ _ (.inr u) from hu hK)
def f_X1_follow (M : MM) (p0 : Nat) (a1 : Int32) (a2 : Int32) : Option (Int32) :=
  if p0 < M.1 ∧ kd p0 = 1 then (lp (fun t => z_X1_follow_5 M p0 a2 t.1 t.2) FU (a1, 0)) else none
theorem r_X1_follow {M : MM} {p0 : Nat} {a1 : Int32} {a2 : Int32} {o : Int32} (h : f_X1_follow M p0 a1 a2 = some o) : p0 < M.1 ∧ kd p0 = 1 := by
  unfold f_X1_follow at h
  exact (gd h).1
theorem cy_X1_follow : CallY yX1_follow cX1_follow 5 (some .int) 2 := ⟨by decide +kernel, tw_540, tw_42, by decide⟩
set_option maxHeartbeats 4000000 in
set_option maxRecDepth 100000 in
theorem c_X1_follow {G : GG} {M : MM} {p0 : Nat} {a1 : Int32} {a2 : Int32} {r : Int32} (h : f_X1_follow M p0 a1 a2 = some r) : Ct G yX1_follow cX1_follow 5 (some .int) 0 [rf G p0, .int a1, .int a2] M (some (.int r)) M := by
  refine ct_of (by decide +kernel) (Nat.le_of_ble_eq_true rfl) (fun X hX O hK hi0 => ?_)
  subst hX
  obtain ⟨lim, hlim⟩ : ∃ z, z = M.1 := ⟨_, rfl⟩
  rw [← hlim] at O
  replace O : OKX X cX1_follow RX1 0 lim 5 := O
  have hi : True := trivial
  have hn : M.1 ≤ lim := Nat.le_of_eq hlim.symm
  show WS X M 0 [(0, rf X.1 p0), (1, .int a1), (2, .int a2)] []
  unfold f_X1_follow at h
  obtain ⟨hg0, h⟩ := gd h
  refine s_iload_n (pc := 0) O dX1_follow_0 rfl 1 rfl ?_
  refine s_istore_n (pc := 1) O (loc' := [(3, .int a1), (0, rf X.1 p0), (1, .int a1), (2, .int a2)]) dX1_follow_1 rfl (by decide) rfl ?_
  refine s_iconst (pc := 2) O (v := 0) dX1_follow_2 (by decide) ?_
  refine s_istore (pc := 3) O (loc' := [(4, .int 0), (3, .int a1), (0, rf X.1 p0), (1, .int a1), (2, .int a2)]) dX1_follow_3 (by decide) rfl ?_
  exact s_sub (pc := 5) O [2, 4, 1, 0] rfl (l_X1_follow_5 O hi hn h hK)

def f_X1_isAnswer (M : MM) (p0 : Nat) (a1 : Int32) (a2 : Int32) : Option (Int32) :=
  if p0 < M.1 ∧ kd p0 = 1 then ((fR M p0 1 0).bind fun v1 => (aZ M v1 a2).bind fun v2 => if v2 = 0 then (some 0) else (if a2 = a1 then (some 0) else ((fR M p0 1 5).bind fun v3 => (aJ M v3 a2).bind fun v4 => (fR M p0 1 5).bind fun v5 => (aJ M v5 a1).bind fun v6 => if (lg_cmp v4 v6) = 0 then (some 1) else (some 0)))) else none
theorem r_X1_isAnswer {M : MM} {p0 : Nat} {a1 : Int32} {a2 : Int32} {o : Int32} (h : f_X1_isAnswer M p0 a1 a2 = some o) : p0 < M.1 ∧ kd p0 = 1 := by
  unfold f_X1_isAnswer at h
  exact (gd h).1
theorem cy_X1_isAnswer : CallY yX1_isAnswer cX1_isAnswer 3 (some .boolean) 2 := ⟨by decide +kernel, tw_450, tw_42, by decide⟩
set_option maxHeartbeats 4000000 in
set_option maxRecDepth 100000 in
theorem c_X1_isAnswer {G : GG} {M : MM} {p0 : Nat} {a1 : Int32} {a2 : Int32} {r : Int32} (h : f_X1_isAnswer M p0 a1 a2 = some r) : Ct G yX1_isAnswer cX1_isAnswer 3 (some .boolean) 0 [rf G p0, .int a1, .int a2] M (some (.int r)) M := by
  refine ct_of (by decide +kernel) (Nat.le_of_ble_eq_true rfl) (fun X hX O hK hi0 => ?_)
  subst hX
  obtain ⟨lim, hlim⟩ : ∃ z, z = M.1 := ⟨_, rfl⟩
  rw [← hlim] at O
  replace O : OKX X cX1_isAnswer RX1 0 lim 3 := O
  have hi : True := trivial
  have hn : M.1 ≤ lim := Nat.le_of_eq hlim.symm
  show WS X M 0 [(0, rf X.1 p0), (1, .int a1), (2, .int a2)] []
  unfold f_X1_isAnswer at h
  obtain ⟨hg0, h⟩ := gd h
  refine s_aload_n (pc := 0) O dX1_isAnswer_0 rfl 0 rfl ?_
  obtain ⟨v1, e, h⟩ := bd h
  refine s_getR (pc := 1) O kc1 (k := 0) rfl tw_101 e dX1_isAnswer_1 ?_
  refine s_iload_n (pc := 4) O dX1_isAnswer_4 rfl 2 rfl ?_
  obtain ⟨v2, e, h⟩ := bd h
  refine s_aldZ (pc := 5) O e dX1_isAnswer_5 ?_
  refine s_if_eq (pc := 6) O (tgt := 34) dX1_isAnswer_6 (by decide) (fun c => ?_) (fun c => ?_)
  · have h := ifp c h
    refine s_iconst (pc := 34) O (v := 0) dX1_isAnswer_34 (by decide) ?_
    cases h
    exact s_zret (pc := 35) O (by decide) hK dX1_isAnswer_35
  · have h := ifn c h
    refine s_iload_n (pc := 9) O dX1_isAnswer_9 rfl 2 rfl ?_
    refine s_iload_n (pc := 10) O dX1_isAnswer_10 rfl 1 rfl ?_
    refine s_icmp_eq (pc := 11) O (tgt := 34) dX1_isAnswer_11 (by decide) (fun c => ?_) (fun c => ?_)
    · have h := ifp c h
      refine s_iconst (pc := 34) O (v := 0) dX1_isAnswer_34 (by decide) ?_
      cases h
      exact s_zret (pc := 35) O (by decide) hK dX1_isAnswer_35
    · have h := ifn c h
      refine s_aload_n (pc := 14) O dX1_isAnswer_14 rfl 0 rfl ?_
      obtain ⟨v3, e, h⟩ := bd h
      refine s_getR (pc := 15) O kc1 (k := 5) rfl tw_109 e dX1_isAnswer_15 ?_
      refine s_iload_n (pc := 18) O dX1_isAnswer_18 rfl 2 rfl ?_
      obtain ⟨v4, e, h⟩ := bd h
      refine s_aldJ (pc := 19) O e dX1_isAnswer_19 ?_
      refine s_aload_n (pc := 20) O dX1_isAnswer_20 rfl 0 rfl ?_
      obtain ⟨v5, e, h⟩ := bd h
      refine s_getR (pc := 21) O kc1 (k := 5) rfl tw_109 e dX1_isAnswer_21 ?_
      refine s_iload_n (pc := 24) O dX1_isAnswer_24 rfl 1 rfl ?_
      obtain ⟨v6, e, h⟩ := bd h
      refine s_aldJ (pc := 25) O e dX1_isAnswer_25 ?_
      refine s_lcmp (pc := 26) O dX1_isAnswer_26 ?_
      refine s_if_ne (pc := 27) O (tgt := 34) dX1_isAnswer_27 (by decide) (fun c => ?_) (fun c => ?_)
      · have h := ifn c h
        refine s_iconst (pc := 34) O (v := 0) dX1_isAnswer_34 (by decide) ?_
        cases h
        exact s_zret (pc := 35) O (by decide) hK dX1_isAnswer_35
      · have h := ifp c h
        refine s_iconst (pc := 30) O (v := 1) dX1_isAnswer_30 (by decide) ?_
        refine s_goto (pc := 31) O (tgt := 35) dX1_isAnswer_31 (by decide) ?_
        cases h
        exact s_zret (pc := 35) O (by decide) hK dX1_isAnswer_35

def j_X1_numberAt_30 (M : MM) (p0 : Nat) (a1 : Int32) (a2 : Int32) (a3 : Int32) : Option ((Int32) ⊕ (Int32 × Int32)) :=
  some ((.inr (a2, (a3 + 1))))
set_option maxHeartbeats 4000000 in
set_option maxRecDepth 100000 in
theorem g_X1_numberAt_30 {X : CT} {lim : Nat} {M : MM} {p0 : Nat} {a1 : Int32} {a2 : Int32} {a3 : Int32} (O : OKX X cX1_numberAt RX1 0 lim 4) (hi : True) (hn : M.1 ≤ lim) {o : (Int32) ⊕ (Int32 × Int32)} (h : j_X1_numberAt_30 M p0 a1 a2 a3 = some o) (hK : (KI (fun (q : Int32) => RTX X (some .int) (some (.int q)) M) (fun (t : Int32 × Int32) => WS X M 4 [(0, rf X.1 p0), (1, .int a1), (2, .int t.1), (3, .int t.2)] [])) o) : WS X M 30 [(0, rf X.1 p0), (1, .int a1), (2, .int a2), (3, .int a3)] [] := by
  unfold j_X1_numberAt_30 at h
  refine s_iinc (pc := 30) O (v := (a3 + 1)) (loc' := [(3, .int (a3 + 1)), (0, rf X.1 p0), (1, .int a1), (2, .int a2)]) dX1_numberAt_30 3 rfl rfl (by decide) rfl ?_
  refine s_goto (pc := 33) O (tgt := 4) dX1_numberAt_33 (by decide) ?_
  cases h
  exact s_sub (pc := 4) O [1, 2, 3, 0] rfl hK
def z_X1_numberAt_4 (M : MM) (p0 : Nat) (a1 : Int32) (a2 : Int32) (a3 : Int32) : Option ((Int32) ⊕ (Int32 × Int32)) :=
  if (1000 : Int32) ≤ a3 then (some ((.inl (-5)))) else ((fR M p0 1 0).bind fun v1 => (aZ M v1 a3).bind fun v2 => if v2 = 0 then (j_X1_numberAt_30 M p0 a1 a2 a3) else (if a2 = a1 then (some ((.inl a3))) else (j_X1_numberAt_30 M p0 a1 ((a2 + 1)) a3)))
set_option maxHeartbeats 4000000 in
set_option maxRecDepth 100000 in
theorem b_X1_numberAt_4 {X : CT} {lim : Nat} {M : MM} {p0 : Nat} {a1 : Int32} {a2 : Int32} {a3 : Int32} (O : OKX X cX1_numberAt RX1 0 lim 4) (hi : True) (hn : M.1 ≤ lim) {o : (Int32) ⊕ (Int32 × Int32)} (h : z_X1_numberAt_4 M p0 a1 a2 a3 = some o) (hK : (KI (fun (q : Int32) => RTX X (some .int) (some (.int q)) M) (fun (t : Int32 × Int32) => WS X M 4 [(0, rf X.1 p0), (1, .int a1), (2, .int t.1), (3, .int t.2)] [])) o) : WS X M 4 [(0, rf X.1 p0), (1, .int a1), (2, .int a2), (3, .int a3)] [] := by
  unfold z_X1_numberAt_4 at h
  refine s_iload_n (pc := 4) O dX1_numberAt_4 rfl 3 rfl ?_
  refine s_sipush (pc := 5) O (v := 1000) dX1_numberAt_5 (by decide) ?_
  refine s_icmp_ge (pc := 8) O (tgt := 36) dX1_numberAt_8 (by decide) (fun c => ?_) (fun c => ?_)
  · have h := ifp c h
    refine s_bipush (pc := 36) O (v := (-5)) dX1_numberAt_36 (by decide) ?_
    cases h
    exact s_iret (pc := 38) O hK dX1_numberAt_38
  · have h := ifn c h
    refine s_aload_n (pc := 11) O dX1_numberAt_11 rfl 0 rfl ?_
    obtain ⟨v1, e, h⟩ := bd h
    refine s_getR (pc := 12) O kc1 (k := 0) rfl tw_101 e dX1_numberAt_12 ?_
    refine s_iload_n (pc := 15) O dX1_numberAt_15 rfl 3 rfl ?_
    obtain ⟨v2, e, h⟩ := bd h
    refine s_aldZ (pc := 16) O e dX1_numberAt_16 ?_
    refine s_if_eq (pc := 17) O (tgt := 30) dX1_numberAt_17 (by decide) (fun c => ?_) (fun c => ?_)
    · have h := ifp c h
      exact s_sub (pc := 30) O [0, 1, 2, 3] rfl (g_X1_numberAt_30 O hi hn h hK)
    · have h := ifn c h
      refine s_iload_n (pc := 20) O dX1_numberAt_20 rfl 2 rfl ?_
      refine s_iload_n (pc := 21) O dX1_numberAt_21 rfl 1 rfl ?_
      refine s_icmp_ne (pc := 22) O (tgt := 27) dX1_numberAt_22 (by decide) (fun c => ?_) (fun c => ?_)
      · have h := ifn c h
        refine s_iinc (pc := 27) O (v := (a2 + 1)) (loc' := [(2, .int (a2 + 1)), (0, rf X.1 p0), (1, .int a1), (3, .int a3)]) dX1_numberAt_27 2 rfl rfl (by decide) rfl ?_
        exact s_sub (pc := 30) O [1, 2, 0, 3] rfl (g_X1_numberAt_30 O hi hn h hK)
      · have h := ifp c h
        refine s_iload_n (pc := 25) O dX1_numberAt_25 rfl 3 rfl ?_
        cases h
        exact s_iret (pc := 26) O hK dX1_numberAt_26
set_option maxHeartbeats 4000000 in
set_option maxRecDepth 100000 in
theorem l_X1_numberAt_4 {X : CT} {lim : Nat} {M : MM} {p0 : Nat} {a1 : Int32} {a2 : Int32} {a3 : Int32} (O : OKX X cX1_numberAt RX1 0 lim 4) (hi : True) (hn : M.1 ≤ lim) {o : Int32} {n : Nat} (h : lp (fun t => z_X1_numberAt_4 M p0 a1 t.1 t.2) n (a2, a3) = some o) (hK : (fun (q : Int32) => RTX X (some .int) (some (.int q)) M) o) : WS X M 4 [(0, rf X.1 p0), (1, .int a1), (2, .int a2), (3, .int a3)] [] := by
  refine lp_ind (P := fun (o : Int32) (t : Int32 × Int32) => (fun (q : Int32) => RTX X (some .int) (some (.int q)) M) o → WS X M 4 [(0, rf X.1 p0), (1, .int a1), (2, .int t.1), (3, .int t.2)] []) (fun t o hs  hK => ?_) n (a2, a3) o h  hK
  rcases hs with h | ⟨u, h, hu⟩
  · exact b_X1_numberAt_4 O hi hn h hK
  · exact b_X1_numberAt_4 O hi hn h (show KI _ _ (.inr u) from hu hK)
def f_X1_numberAt (M : MM) (p0 : Nat) (a1 : Int32) : Option (Int32) :=
  if p0 < M.1 ∧ kd p0 = 1 then (lp (fun t => z_X1_numberAt_4 M p0 a1 t.1 t.2) FU (0, 1)) else none
theorem r_X1_numberAt {M : MM} {p0 : Nat} {a1 : Int32} {o : Int32} (h : f_X1_numberAt M p0 a1 = some o) : p0 < M.1 ∧ kd p0 = 1 := by
  unfold f_X1_numberAt at h
  exact (gd h).1
theorem cy_X1_numberAt : CallY yX1_numberAt cX1_numberAt 4 (some .int) 1 := ⟨by decide +kernel, tw_477, tw_42, by decide⟩
set_option maxHeartbeats 4000000 in
set_option maxRecDepth 100000 in
theorem c_X1_numberAt {G : GG} {M : MM} {p0 : Nat} {a1 : Int32} {r : Int32} (h : f_X1_numberAt M p0 a1 = some r) : Ct G yX1_numberAt cX1_numberAt 4 (some .int) 0 [rf G p0, .int a1] M (some (.int r)) M := by
  refine ct_of (by decide +kernel) (Nat.le_of_ble_eq_true rfl) (fun X hX O hK hi0 => ?_)
  subst hX
  obtain ⟨lim, hlim⟩ : ∃ z, z = M.1 := ⟨_, rfl⟩
  rw [← hlim] at O
  replace O : OKX X cX1_numberAt RX1 0 lim 4 := O
  have hi : True := trivial
  have hn : M.1 ≤ lim := Nat.le_of_eq hlim.symm
  show WS X M 0 [(0, rf X.1 p0), (1, .int a1)] []
  unfold f_X1_numberAt at h
  obtain ⟨hg0, h⟩ := gd h
  refine s_iconst (pc := 0) O (v := 0) dX1_numberAt_0 (by decide) ?_
  refine s_istore_n (pc := 1) O (loc' := [(2, .int 0), (0, rf X.1 p0), (1, .int a1)]) dX1_numberAt_1 rfl (by decide) rfl ?_
  refine s_iconst (pc := 2) O (v := 1) dX1_numberAt_2 (by decide) ?_
  refine s_istore_n (pc := 3) O (loc' := [(3, .int 1), (2, .int 0), (0, rf X.1 p0), (1, .int a1)]) dX1_numberAt_3 rfl (by decide) rfl ?_
  exact s_sub (pc := 4) O [2, 3, 1, 0] rfl (l_X1_numberAt_4 O hi hn h hK)

def j_X1_putIntoGroup_150 (M : MM) (p0 : Nat) (a1 : Int32) (a2 : Int32) : Option (MM) :=
  (fR M p0 1 11).bind fun v1 => (waI M v1 a2 a1).bind fun M2 => some M2
set_option maxHeartbeats 4000000 in
set_option maxRecDepth 100000 in
theorem g_X1_putIntoGroup_150 {X : CT} {lim : Nat} {M : MM} {p0 : Nat} {a1 : Int32} {a2 : Int32} (O : OKX X cX1_putIntoGroup RX1 0 lim 3) (hi : True) (hn : M.1 ≤ lim) {o : MM} (h : j_X1_putIntoGroup_150 M p0 a1 a2 = some o) (hK : (fun (q : MM) => RTX X none none q) o) : WS X M 150 [(0, rf X.1 p0), (1, .int a1), (2, .int a2)] [] := by
  unfold j_X1_putIntoGroup_150 at h
  refine s_aload_n (pc := 150) O dX1_putIntoGroup_150 rfl 0 rfl ?_
  obtain ⟨v1, e, h⟩ := bd h
  refine s_getR (pc := 151) O kc1 (k := 11) rfl tw_117 e dX1_putIntoGroup_151 ?_
  refine s_iload_n (pc := 154) O dX1_putIntoGroup_154 rfl 2 rfl ?_
  refine s_iload_n (pc := 155) O dX1_putIntoGroup_155 rfl 1 rfl ?_
  obtain ⟨M2, e, h⟩ := bd h
  refine s_astI (pc := 156) O e dX1_putIntoGroup_156 ?_
  have hn : M2.1 ≤ lim := by rw [waI_n e]; exact hn
  cases h
  exact s_vret (pc := 157) O hK dX1_putIntoGroup_157
def j_X1_putIntoGroup_37 (M : MM) (p0 : Nat) (a1 : Int32) (a2 : Int32) : Option (MM) :=
  (fR M p0 1 12).bind fun v1 => (waI M v1 a1 a2).bind fun M2 => (fI M2 p0 1 13).bind fun v3 => if a2 = v3 then ((fI M2 p0 1 13).bind fun v24 => (wfI M2 p0 1 13 ((v24 + 1))).bind fun M25 => (fR M25 p0 1 10).bind fun v26 => (waI M25 v26 a2 a1).bind fun M27 => (fR M27 p0 1 11).bind fun v28 => (waI M27 v28 a2 0).bind fun M29 => some M29) else ((fR M2 p0 1 2).bind fun v4 => (aI M2 v4 a1).bind fun v5 => (fR M2 p0 1 2).bind fun v6 => (fR M2 p0 1 10).bind fun v7 => (aI M2 v7 a2).bind fun v8 => (aI M2 v6 v8).bind fun v9 => if v5 ≤ v9 then ((fR M2 p0 1 11).bind fun v10 => (aI M2 v10 a2).bind fun v11 => if v11 = 0 then (j_X1_putIntoGroup_150 M2 p0 a1 a2) else ((fR M2 p0 1 2).bind fun v12 => (aI M2 v12 a1).bind fun v13 => (fR M2 p0 1 2).bind fun v14 => (fR M2 p0 1 11).bind fun v15 => (aI M2 v15 a2).bind fun v16 => (aI M2 v14 v16).bind fun v17 => if v13 ≤ v17 then (some M2) else (j_X1_putIntoGroup_150 M2 p0 a1 a2))) else ((fR M2 p0 1 11).bind fun v18 => (fR M2 p0 1 10).bind fun v19 => (aI M2 v19 a2).bind fun v20 => (waI M2 v18 a2 v20).bind fun M21 => (fR M21 p0 1 10).bind fun v22 => (waI M21 v22 a2 a1).bind fun M23 => some M23))
set_option maxHeartbeats 4000000 in
set_option maxRecDepth 100000 in
theorem g_X1_putIntoGroup_37 {X : CT} {lim : Nat} {M : MM} {p0 : Nat} {a1 : Int32} {a2 : Int32} (O : OKX X cX1_putIntoGroup RX1 0 lim 3) (hi : True) (hn : M.1 ≤ lim) {o : MM} (h : j_X1_putIntoGroup_37 M p0 a1 a2 = some o) (hK : (fun (q : MM) => RTX X none none q) o) : WS X M 37 [(0, rf X.1 p0), (1, .int a1), (2, .int a2)] [] := by
  unfold j_X1_putIntoGroup_37 at h
  refine s_aload_n (pc := 37) O dX1_putIntoGroup_37 rfl 0 rfl ?_
  obtain ⟨v1, e, h⟩ := bd h
  refine s_getR (pc := 38) O kc1 (k := 12) rfl tw_118 e dX1_putIntoGroup_38 ?_
  refine s_iload_n (pc := 41) O dX1_putIntoGroup_41 rfl 1 rfl ?_
  refine s_iload_n (pc := 42) O dX1_putIntoGroup_42 rfl 2 rfl ?_
  obtain ⟨M2, e, h⟩ := bd h
  refine s_astI (pc := 43) O e dX1_putIntoGroup_43 ?_
  have hn : M2.1 ≤ lim := by rw [waI_n e]; exact hn
  refine s_iload_n (pc := 44) O dX1_putIntoGroup_44 rfl 2 rfl ?_
  refine s_aload_n (pc := 45) O dX1_putIntoGroup_45 rfl 0 rfl ?_
  obtain ⟨v3, e, h⟩ := bd h
  refine s_getI (pc := 46) O kc1 (k := 13) rfl tw_119 e dX1_putIntoGroup_46 ?_
  refine s_icmp_ne (pc := 49) O (tgt := 79) dX1_putIntoGroup_49 (by decide) (fun c => ?_) (fun c => ?_)
  · have h := ifn c h
    refine s_aload_n (pc := 79) O dX1_putIntoGroup_79 rfl 0 rfl ?_
    obtain ⟨v4, e, h⟩ := bd h
    refine s_getR (pc := 80) O kc1 (k := 2) rfl tw_103 e dX1_putIntoGroup_80 ?_
    refine s_iload_n (pc := 83) O dX1_putIntoGroup_83 rfl 1 rfl ?_
    obtain ⟨v5, e, h⟩ := bd h
    refine s_aldI (pc := 84) O e dX1_putIntoGroup_84 ?_
    refine s_aload_n (pc := 85) O dX1_putIntoGroup_85 rfl 0 rfl ?_
    obtain ⟨v6, e, h⟩ := bd h
    refine s_getR (pc := 86) O kc1 (k := 2) rfl tw_103 e dX1_putIntoGroup_86 ?_
    refine s_aload_n (pc := 89) O dX1_putIntoGroup_89 rfl 0 rfl ?_
    obtain ⟨v7, e, h⟩ := bd h
    refine s_getR (pc := 90) O kc1 (k := 10) rfl tw_116 e dX1_putIntoGroup_90 ?_
    refine s_iload_n (pc := 93) O dX1_putIntoGroup_93 rfl 2 rfl ?_
    obtain ⟨v8, e, h⟩ := bd h
    refine s_aldI (pc := 94) O e dX1_putIntoGroup_94 ?_
    obtain ⟨v9, e, h⟩ := bd h
    refine s_aldI (pc := 95) O e dX1_putIntoGroup_95 ?_
    refine s_icmp_le (pc := 96) O (tgt := 121) dX1_putIntoGroup_96 (by decide) (fun c => ?_) (fun c => ?_)
    · have h := ifp c h
      refine s_aload_n (pc := 121) O dX1_putIntoGroup_121 rfl 0 rfl ?_
      obtain ⟨v10, e, h⟩ := bd h
      refine s_getR (pc := 122) O kc1 (k := 11) rfl tw_117 e dX1_putIntoGroup_122 ?_
      refine s_iload_n (pc := 125) O dX1_putIntoGroup_125 rfl 2 rfl ?_
      obtain ⟨v11, e, h⟩ := bd h
      refine s_aldI (pc := 126) O e dX1_putIntoGroup_126 ?_
      refine s_if_eq (pc := 127) O (tgt := 150) dX1_putIntoGroup_127 (by decide) (fun c => ?_) (fun c => ?_)
      · have h := ifp c h
        exact s_sub (pc := 150) O [0, 1, 2] rfl (g_X1_putIntoGroup_150 O hi hn h hK)
      · have h := ifn c h
        refine s_aload_n (pc := 130) O dX1_putIntoGroup_130 rfl 0 rfl ?_
        obtain ⟨v12, e, h⟩ := bd h
        refine s_getR (pc := 131) O kc1 (k := 2) rfl tw_103 e dX1_putIntoGroup_131 ?_
        refine s_iload_n (pc := 134) O dX1_putIntoGroup_134 rfl 1 rfl ?_
        obtain ⟨v13, e, h⟩ := bd h
        refine s_aldI (pc := 135) O e dX1_putIntoGroup_135 ?_
        refine s_aload_n (pc := 136) O dX1_putIntoGroup_136 rfl 0 rfl ?_
        obtain ⟨v14, e, h⟩ := bd h
        refine s_getR (pc := 137) O kc1 (k := 2) rfl tw_103 e dX1_putIntoGroup_137 ?_
        refine s_aload_n (pc := 140) O dX1_putIntoGroup_140 rfl 0 rfl ?_
        obtain ⟨v15, e, h⟩ := bd h
        refine s_getR (pc := 141) O kc1 (k := 11) rfl tw_117 e dX1_putIntoGroup_141 ?_
        refine s_iload_n (pc := 144) O dX1_putIntoGroup_144 rfl 2 rfl ?_
        obtain ⟨v16, e, h⟩ := bd h
        refine s_aldI (pc := 145) O e dX1_putIntoGroup_145 ?_
        obtain ⟨v17, e, h⟩ := bd h
        refine s_aldI (pc := 146) O e dX1_putIntoGroup_146 ?_
        refine s_icmp_le (pc := 147) O (tgt := 157) dX1_putIntoGroup_147 (by decide) (fun c => ?_) (fun c => ?_)
        · have h := ifp c h
          cases h
          exact s_vret (pc := 157) O hK dX1_putIntoGroup_157
        · have h := ifn c h
          exact s_sub (pc := 150) O [0, 1, 2] rfl (g_X1_putIntoGroup_150 O hi hn h hK)
    · have h := ifn c h
      refine s_aload_n (pc := 99) O dX1_putIntoGroup_99 rfl 0 rfl ?_
      obtain ⟨v18, e, h⟩ := bd h
      refine s_getR (pc := 100) O kc1 (k := 11) rfl tw_117 e dX1_putIntoGroup_100 ?_
      refine s_iload_n (pc := 103) O dX1_putIntoGroup_103 rfl 2 rfl ?_
      refine s_aload_n (pc := 104) O dX1_putIntoGroup_104 rfl 0 rfl ?_
      obtain ⟨v19, e, h⟩ := bd h
      refine s_getR (pc := 105) O kc1 (k := 10) rfl tw_116 e dX1_putIntoGroup_105 ?_
      refine s_iload_n (pc := 108) O dX1_putIntoGroup_108 rfl 2 rfl ?_
      obtain ⟨v20, e, h⟩ := bd h
      refine s_aldI (pc := 109) O e dX1_putIntoGroup_109 ?_
      obtain ⟨M21, e, h⟩ := bd h
      refine s_astI (pc := 110) O e dX1_putIntoGroup_110 ?_
      have hn : M21.1 ≤ lim := by rw [waI_n e]; exact hn
      refine s_aload_n (pc := 111) O dX1_putIntoGroup_111 rfl 0 rfl ?_
      obtain ⟨v22, e, h⟩ := bd h
      refine s_getR (pc := 112) O kc1 (k := 10) rfl tw_116 e dX1_putIntoGroup_112 ?_
      refine s_iload_n (pc := 115) O dX1_putIntoGroup_115 rfl 2 rfl ?_
      refine s_iload_n (pc := 116) O dX1_putIntoGroup_116 rfl 1 rfl ?_
      obtain ⟨M23, e, h⟩ := bd h
      refine s_astI (pc := 117) O e dX1_putIntoGroup_117 ?_
      have hn : M23.1 ≤ lim := by rw [waI_n e]; exact hn
      refine s_goto (pc := 118) O (tgt := 157) dX1_putIntoGroup_118 (by decide) ?_
      cases h
      exact s_vret (pc := 157) O hK dX1_putIntoGroup_157
  · have h := ifp c h
    refine s_aload_n (pc := 52) O dX1_putIntoGroup_52 rfl 0 rfl ?_
    refine s_dup (pc := 53) O dX1_putIntoGroup_53 rfl ?_
    obtain ⟨v24, e, h⟩ := bd h
    refine s_getI (pc := 54) O kc1 (k := 13) rfl tw_119 e dX1_putIntoGroup_54 ?_
    refine s_iconst (pc := 57) O (v := 1) dX1_putIntoGroup_57 (by decide) ?_
    refine s_iadd (pc := 58) O dX1_putIntoGroup_58 ?_
    obtain ⟨M25, e, h⟩ := bd h
    refine s_putI (pc := 59) O kc1 (k := 13) rfl rfl rfl tw_119 e dX1_putIntoGroup_59 ?_
    have hn : M25.1 ≤ lim := by rw [wfI_n e]; exact hn
    refine s_aload_n (pc := 62) O dX1_putIntoGroup_62 rfl 0 rfl ?_
    obtain ⟨v26, e, h⟩ := bd h
    refine s_getR (pc := 63) O kc1 (k := 10) rfl tw_116 e dX1_putIntoGroup_63 ?_
    refine s_iload_n (pc := 66) O dX1_putIntoGroup_66 rfl 2 rfl ?_
    refine s_iload_n (pc := 67) O dX1_putIntoGroup_67 rfl 1 rfl ?_
    obtain ⟨M27, e, h⟩ := bd h
    refine s_astI (pc := 68) O e dX1_putIntoGroup_68 ?_
    have hn : M27.1 ≤ lim := by rw [waI_n e]; exact hn
    refine s_aload_n (pc := 69) O dX1_putIntoGroup_69 rfl 0 rfl ?_
    obtain ⟨v28, e, h⟩ := bd h
    refine s_getR (pc := 70) O kc1 (k := 11) rfl tw_117 e dX1_putIntoGroup_70 ?_
    refine s_iload_n (pc := 73) O dX1_putIntoGroup_73 rfl 2 rfl ?_
    refine s_iconst (pc := 74) O (v := 0) dX1_putIntoGroup_74 (by decide) ?_
    obtain ⟨M29, e, h⟩ := bd h
    refine s_astI (pc := 75) O e dX1_putIntoGroup_75 ?_
    have hn : M29.1 ≤ lim := by rw [waI_n e]; exact hn
    refine s_goto (pc := 76) O (tgt := 157) dX1_putIntoGroup_76 (by decide) ?_
    cases h
    exact s_vret (pc := 157) O hK dX1_putIntoGroup_157
def z_X1_putIntoGroup_2 (M : MM) (p0 : Nat) (a1 : Int32) (a2 : Int32) : Option ((MM) ⊕ (Int32)) :=
  (fI M p0 1 13).bind fun v1 => if v1 ≤ a2 then ((j_X1_putIntoGroup_37 M p0 a1 a2).map .inl) else ((fR M p0 1 5).bind fun v2 => (fR M p0 1 10).bind fun v3 => (aI M v3 a2).bind fun v4 => (aJ M v2 v4).bind fun v5 => (fR M p0 1 5).bind fun v6 => (aJ M v6 a1).bind fun v7 => if (lg_cmp v5 v7) = 0 then ((j_X1_putIntoGroup_37 M p0 a1 a2).map .inl) else (some ((.inr ((a2 + 1))))))
set_option maxHeartbeats 4000000 in
set_option maxRecDepth 100000 in
theorem b_X1_putIntoGroup_2 {X : CT} {lim : Nat} {M : MM} {p0 : Nat} {a1 : Int32} {a2 : Int32} (O : OKX X cX1_putIntoGroup RX1 0 lim 3) (hi : True) (hn : M.1 ≤ lim) {o : (MM) ⊕ (Int32)} (h : z_X1_putIntoGroup_2 M p0 a1 a2 = some o) (hK : (KI (fun (q : MM) => RTX X none none q) (fun (t : Int32) => WS X M 2 [(0, rf X.1 p0), (1, .int a1), (2, .int t)] [])) o) : WS X M 2 [(0, rf X.1 p0), (1, .int a1), (2, .int a2)] [] := by
  unfold z_X1_putIntoGroup_2 at h
  refine s_iload_n (pc := 2) O dX1_putIntoGroup_2 rfl 2 rfl ?_
  refine s_aload_n (pc := 3) O dX1_putIntoGroup_3 rfl 0 rfl ?_
  obtain ⟨v1, e, h⟩ := bd h
  refine s_getI (pc := 4) O kc1 (k := 13) rfl tw_119 e dX1_putIntoGroup_4 ?_
  refine s_icmp_ge (pc := 7) O (tgt := 37) dX1_putIntoGroup_7 (by decide) (fun c => ?_) (fun c => ?_)
  · have h := ifp c h
    obtain ⟨q0, hq0, ho0⟩ := mpi h; subst ho0; replace h := hq0
    exact s_sub (pc := 37) O [0, 1, 2] rfl (g_X1_putIntoGroup_37 O hi hn h hK)
  · have h := ifn c h
    refine s_aload_n (pc := 10) O dX1_putIntoGroup_10 rfl 0 rfl ?_
    obtain ⟨v2, e, h⟩ := bd h
    refine s_getR (pc := 11) O kc1 (k := 5) rfl tw_109 e dX1_putIntoGroup_11 ?_
    refine s_aload_n (pc := 14) O dX1_putIntoGroup_14 rfl 0 rfl ?_
    obtain ⟨v3, e, h⟩ := bd h
    refine s_getR (pc := 15) O kc1 (k := 10) rfl tw_116 e dX1_putIntoGroup_15 ?_
    refine s_iload_n (pc := 18) O dX1_putIntoGroup_18 rfl 2 rfl ?_
    obtain ⟨v4, e, h⟩ := bd h
    refine s_aldI (pc := 19) O e dX1_putIntoGroup_19 ?_
    obtain ⟨v5, e, h⟩ := bd h
    refine s_aldJ (pc := 20) O e dX1_putIntoGroup_20 ?_
    refine s_aload_n (pc := 21) O dX1_putIntoGroup_21 rfl 0 rfl ?_
    obtain ⟨v6, e, h⟩ := bd h
    refine s_getR (pc := 22) O kc1 (k := 5) rfl tw_109 e dX1_putIntoGroup_22 ?_
    refine s_iload_n (pc := 25) O dX1_putIntoGroup_25 rfl 1 rfl ?_
    obtain ⟨v7, e, h⟩ := bd h
    refine s_aldJ (pc := 26) O e dX1_putIntoGroup_26 ?_
    refine s_lcmp (pc := 27) O dX1_putIntoGroup_27 ?_
    refine s_if_eq (pc := 28) O (tgt := 37) dX1_putIntoGroup_28 (by decide) (fun c => ?_) (fun c => ?_)
    · have h := ifp c h
      obtain ⟨q0, hq0, ho0⟩ := mpi h; subst ho0; replace h := hq0
      exact s_sub (pc := 37) O [0, 1, 2] rfl (g_X1_putIntoGroup_37 O hi hn h hK)
    · have h := ifn c h
      refine s_iinc (pc := 31) O (v := (a2 + 1)) (loc' := [(2, .int (a2 + 1)), (0, rf X.1 p0), (1, .int a1)]) dX1_putIntoGroup_31 2 rfl rfl (by decide) rfl ?_
      refine s_goto (pc := 34) O (tgt := 2) dX1_putIntoGroup_34 (by decide) ?_
      cases h
      exact s_sub (pc := 2) O [1, 2, 0] rfl hK
set_option maxHeartbeats 4000000 in
set_option maxRecDepth 100000 in
theorem l_X1_putIntoGroup_2 {X : CT} {lim : Nat} {M : MM} {p0 : Nat} {a1 : Int32} {a2 : Int32} (O : OKX X cX1_putIntoGroup RX1 0 lim 3) (hi : True) (hn : M.1 ≤ lim) {o : MM} {n : Nat} (h : lp (fun t => z_X1_putIntoGroup_2 M p0 a1 t) n (a2) = some o) (hK : (fun (q : MM) => RTX X none none q) o) : WS X M 2 [(0, rf X.1 p0), (1, .int a1), (2, .int a2)] [] := by
  refine lp_ind (P := fun (o : MM) (t : Int32) => (fun (q : MM) => RTX X none none q) o → WS X M 2 [(0, rf X.1 p0), (1, .int a1), (2, .int t)] []) (fun t o hs  hK => ?_) n (a2) o h  hK
  rcases hs with h | ⟨u, h, hu⟩
  · exact b_X1_putIntoGroup_2 O hi hn h hK
  · exact b_X1_putIntoGroup_2 O hi hn h (show KI _ _ (.inr u) from hu hK)
def f_X1_putIntoGroup (M : MM) (p0 : Nat) (a1 : Int32) : Option (MM) :=
  if p0 < M.1 ∧ kd p0 = 1 then (lp (fun t => z_X1_putIntoGroup_2 M p0 a1 t) FU (0)) else none
theorem r_X1_putIntoGroup {M : MM} {p0 : Nat} {a1 : Int32} {o : MM} (h : f_X1_putIntoGroup M p0 a1 = some o) : p0 < M.1 ∧ kd p0 = 1 := by
  unfold f_X1_putIntoGroup at h
  exact (gd h).1
theorem cy_X1_putIntoGroup : CallY yX1_putIntoGroup cX1_putIntoGroup 3 (none) 1 := ⟨by decide +kernel, tw_405, tw_42, by decide⟩
set_option maxHeartbeats 4000000 in
set_option maxRecDepth 100000 in
theorem c_X1_putIntoGroup {G : GG} {M : MM} {p0 : Nat} {a1 : Int32} {M' : MM} (h : f_X1_putIntoGroup M p0 a1 = some M') (hn : M.1 ≤ M'.1) : Ct G yX1_putIntoGroup cX1_putIntoGroup 3 (none) 0 [rf G p0, .int a1] M (none) M' := by
  refine ct_of (by decide +kernel) (Nat.le_of_ble_eq_true rfl) (fun X hX O hK hi0 => ?_)
  subst hX
  obtain ⟨lim, hlim⟩ : ∃ z, z = M'.1 := ⟨_, rfl⟩
  rw [← hlim] at O hn
  replace O : OKX X cX1_putIntoGroup RX1 0 lim 3 := O
  have hi : True := trivial
  show WS X M 0 [(0, rf X.1 p0), (1, .int a1)] []
  unfold f_X1_putIntoGroup at h
  obtain ⟨hg0, h⟩ := gd h
  refine s_iconst (pc := 0) O (v := 0) dX1_putIntoGroup_0 (by decide) ?_
  refine s_istore_n (pc := 1) O (loc' := [(2, .int 0), (0, rf X.1 p0), (1, .int a1)]) dX1_putIntoGroup_1 rfl (by decide) rfl ?_
  exact s_sub (pc := 2) O [1, 2, 0] rfl (l_X1_putIntoGroup_2 O hi hn h hK)

def z_X1_stepsToRing_30 (M : MM) (p0 : Nat) (a1 : Int32) (a2 : Int32) (a3 : Int32) (a4 : Int32) (a5 : Int32) : Option (((Int32) ⊕ (Int32 × Int32)) ⊕ (Int32 × Int32)) :=
  if a3 ≤ a5 then (some ((.inl (.inr (a2, (a3 + 1)))))) else (if a4 = a2 then (some ((.inl (.inl a3)))) else ((fR M p0 1 7).bind fun v1 => (aI M v1 a4).bind fun v2 => some ((.inr (v2, (a5 + 1))))))
set_option maxHeartbeats 4000000 in
set_option maxRecDepth 100000 in
theorem b_X1_stepsToRing_30 {X : CT} {lim : Nat} {M : MM} {p0 : Nat} {a1 : Int32} {a2 : Int32} {a3 : Int32} {a4 : Int32} {a5 : Int32} (O : OKX X cX1_stepsToRing RX1 0 lim 6) (hi : True) (hn : M.1 ≤ lim) {o : ((Int32) ⊕ (Int32 × Int32)) ⊕ (Int32 × Int32)} (h : z_X1_stepsToRing_30 M p0 a1 a2 a3 a4 a5 = some o) (hK : (KI (KI (fun (q : Int32) => RTX X (some .int) (some (.int q)) M) (fun (t : Int32 × Int32) => WS X M 4 [(0, rf X.1 p0), (1, .int a1), (2, .int t.1), (3, .int t.2)] [])) (fun (t : Int32 × Int32) => WS X M 30 [(0, rf X.1 p0), (1, .int a1), (2, .int a2), (3, .int a3), (4, .int t.1), (5, .int t.2)] [])) o) : WS X M 30 [(0, rf X.1 p0), (1, .int a1), (2, .int a2), (3, .int a3), (4, .int a4), (5, .int a5)] [] := by
  unfold z_X1_stepsToRing_30 at h
  refine s_iload (pc := 30) O dX1_stepsToRing_30 5 rfl ?_
  refine s_iload_n (pc := 32) O dX1_stepsToRing_32 rfl 3 rfl ?_
  refine s_icmp_ge (pc := 33) O (tgt := 59) dX1_stepsToRing_33 (by decide) (fun c => ?_) (fun c => ?_)
  · have h := ifp c h
    refine s_iinc (pc := 59) O (v := (a3 + 1)) (loc' := [(3, .int (a3 + 1)), (0, rf X.1 p0), (1, .int a1), (2, .int a2), (4, .int a4), (5, .int a5)]) dX1_stepsToRing_59 3 rfl rfl (by decide) rfl ?_
    refine s_goto (pc := 62) O (tgt := 4) dX1_stepsToRing_62 (by decide) ?_
    cases h
    exact s_sub (pc := 4) O [1, 2, 3, 0] rfl hK
  · have h := ifn c h
    refine s_iload (pc := 36) O dX1_stepsToRing_36 4 rfl ?_
    refine s_iload_n (pc := 38) O dX1_stepsToRing_38 rfl 2 rfl ?_
    refine s_icmp_ne (pc := 39) O (tgt := 44) dX1_stepsToRing_39 (by decide) (fun c => ?_) (fun c => ?_)
    · have h := ifn c h
      refine s_aload_n (pc := 44) O dX1_stepsToRing_44 rfl 0 rfl ?_
      obtain ⟨v1, e, h⟩ := bd h
      refine s_getR (pc := 45) O kc1 (k := 7) rfl tw_111 e dX1_stepsToRing_45 ?_
      refine s_iload (pc := 48) O dX1_stepsToRing_48 4 rfl ?_
      obtain ⟨v2, e, h⟩ := bd h
      refine s_aldI (pc := 50) O e dX1_stepsToRing_50 ?_
      refine s_istore (pc := 51) O (loc' := [(4, .int v2), (0, rf X.1 p0), (1, .int a1), (2, .int a2), (3, .int a3), (5, .int a5)]) dX1_stepsToRing_51 (by decide) rfl ?_
      refine s_iinc (pc := 53) O (v := (a5 + 1)) (loc' := [(5, .int (a5 + 1)), (4, .int v2), (0, rf X.1 p0), (1, .int a1), (2, .int a2), (3, .int a3)]) dX1_stepsToRing_53 5 rfl rfl (by decide) rfl ?_
      refine s_goto (pc := 56) O (tgt := 30) dX1_stepsToRing_56 (by decide) ?_
      cases h
      exact s_sub (pc := 30) O [2, 3, 4, 5, 1, 0] rfl hK
    · have h := ifp c h
      refine s_iload_n (pc := 42) O dX1_stepsToRing_42 rfl 3 rfl ?_
      cases h
      exact s_iret (pc := 43) O hK dX1_stepsToRing_43
set_option maxHeartbeats 4000000 in
set_option maxRecDepth 100000 in
theorem l_X1_stepsToRing_30 {X : CT} {lim : Nat} {M : MM} {p0 : Nat} {a1 : Int32} {a2 : Int32} {a3 : Int32} {a4 : Int32} {a5 : Int32} (O : OKX X cX1_stepsToRing RX1 0 lim 6) (hi : True) (hn : M.1 ≤ lim) {o : (Int32) ⊕ (Int32 × Int32)} {n : Nat} (h : lp (fun t => z_X1_stepsToRing_30 M p0 a1 a2 a3 t.1 t.2) n (a4, a5) = some o) (hK : (KI (fun (q : Int32) => RTX X (some .int) (some (.int q)) M) (fun (t : Int32 × Int32) => WS X M 4 [(0, rf X.1 p0), (1, .int a1), (2, .int t.1), (3, .int t.2)] [])) o) : WS X M 30 [(0, rf X.1 p0), (1, .int a1), (2, .int a2), (3, .int a3), (4, .int a4), (5, .int a5)] [] := by
  refine lp_ind (P := fun (o : (Int32) ⊕ (Int32 × Int32)) (t : Int32 × Int32) => (KI (fun (q : Int32) => RTX X (some .int) (some (.int q)) M) (fun (t : Int32 × Int32) => WS X M 4 [(0, rf X.1 p0), (1, .int a1), (2, .int t.1), (3, .int t.2)] [])) o → WS X M 30 [(0, rf X.1 p0), (1, .int a1), (2, .int a2), (3, .int a3), (4, .int t.1), (5, .int t.2)] []) (fun t o hs  hK => ?_) n (a4, a5) o h  hK
  rcases hs with h | ⟨u, h, hu⟩
  · exact b_X1_stepsToRing_30 O hi hn h hK
  · exact b_X1_stepsToRing_30 O hi hn h (show KI _ _ (.inr u) from hu hK)
def z_X1_stepsToRing_4 (M : MM) (p0 : Nat) (a1 : Int32) (a2 : Int32) (a3 : Int32) : Option ((Int32) ⊕ (Int32 × Int32)) :=
  if (99 : Int32) < a3 then (some ((.inl (-9)))) else ((fR M p0 1 7).bind fun v1 => (aI M v1 a2).bind fun v2 => if v2 = 0 then (some ((.inl (-9)))) else (lp (fun t => z_X1_stepsToRing_30 M p0 a1 v2 a3 t.1 t.2) FU (a1, 0)))
set_option maxHeartbeats 4000000 in
set_option maxRecDepth 100000 in
theorem b_X1_stepsToRing_4 {X : CT} {lim : Nat} {M : MM} {p0 : Nat} {a1 : Int32} {a2 : Int32} {a3 : Int32} (O : OKX X cX1_stepsToRing RX1 0 lim 6) (hi : True) (hn : M.1 ≤ lim) {o : (Int32) ⊕ (Int32 × Int32)} (h : z_X1_stepsToRing_4 M p0 a1 a2 a3 = some o) (hK : (KI (fun (q : Int32) => RTX X (some .int) (some (.int q)) M) (fun (t : Int32 × Int32) => WS X M 4 [(0, rf X.1 p0), (1, .int a1), (2, .int t.1), (3, .int t.2)] [])) o) : WS X M 4 [(0, rf X.1 p0), (1, .int a1), (2, .int a2), (3, .int a3)] [] := by
  unfold z_X1_stepsToRing_4 at h
  refine s_iload_n (pc := 4) O dX1_stepsToRing_4 rfl 3 rfl ?_
  refine s_bipush (pc := 5) O (v := 99) dX1_stepsToRing_5 (by decide) ?_
  refine s_icmp_gt (pc := 7) O (tgt := 65) dX1_stepsToRing_7 (by decide) (fun c => ?_) (fun c => ?_)
  · have h := ifp c h
    refine s_bipush (pc := 65) O (v := (-9)) dX1_stepsToRing_65 (by decide) ?_
    cases h
    exact s_iret (pc := 67) O hK dX1_stepsToRing_67
  · have h := ifn c h
    refine s_aload_n (pc := 10) O dX1_stepsToRing_10 rfl 0 rfl ?_
    obtain ⟨v1, e, h⟩ := bd h
    refine s_getR (pc := 11) O kc1 (k := 7) rfl tw_111 e dX1_stepsToRing_11 ?_
    refine s_iload_n (pc := 14) O dX1_stepsToRing_14 rfl 2 rfl ?_
    obtain ⟨v2, e, h⟩ := bd h
    refine s_aldI (pc := 15) O e dX1_stepsToRing_15 ?_
    refine s_istore_n (pc := 16) O (loc' := [(2, .int v2), (0, rf X.1 p0), (1, .int a1), (3, .int a3)]) dX1_stepsToRing_16 rfl (by decide) rfl ?_
    refine s_iload_n (pc := 17) O dX1_stepsToRing_17 rfl 0 rfl ?_
    refine s_if_ne (pc := 18) O (tgt := 24) dX1_stepsToRing_18 (by decide) (fun c => ?_) (fun c => ?_)
    · have h := ifn c h
      refine s_iload_n (pc := 24) O dX1_stepsToRing_24 rfl 2 rfl ?_
      refine s_istore (pc := 25) O (loc' := [(4, .int a1), (2, .int v2), (0, rf X.1 p0), (1, .int a1), (3, .int a3)]) dX1_stepsToRing_25 (by decide) rfl ?_
      refine s_iconst (pc := 27) O (v := 0) dX1_stepsToRing_27 (by decide) ?_
      refine s_istore (pc := 28) O (loc' := [(5, .int 0), (4, .int a1), (2, .int v2), (0, rf X.1 p0), (1, .int a1), (3, .int a3)]) dX1_stepsToRing_28 (by decide) rfl ?_
      exact s_sub (pc := 30) O [3, 4, 2, 5, 1, 0] rfl (l_X1_stepsToRing_30 O hi hn h hK)
    · have h := ifp c h
      refine s_bipush (pc := 21) O (v := (-9)) dX1_stepsToRing_21 (by decide) ?_
      cases h
      exact s_iret (pc := 23) O hK dX1_stepsToRing_23
set_option maxHeartbeats 4000000 in
set_option maxRecDepth 100000 in
theorem l_X1_stepsToRing_4 {X : CT} {lim : Nat} {M : MM} {p0 : Nat} {a1 : Int32} {a2 : Int32} {a3 : Int32} (O : OKX X cX1_stepsToRing RX1 0 lim 6) (hi : True) (hn : M.1 ≤ lim) {o : Int32} {n : Nat} (h : lp (fun t => z_X1_stepsToRing_4 M p0 a1 t.1 t.2) n (a2, a3) = some o) (hK : (fun (q : Int32) => RTX X (some .int) (some (.int q)) M) o) : WS X M 4 [(0, rf X.1 p0), (1, .int a1), (2, .int a2), (3, .int a3)] [] := by
  refine lp_ind (P := fun (o : Int32) (t : Int32 × Int32) => (fun (q : Int32) => RTX X (some .int) (some (.int q)) M) o → WS X M 4 [(0, rf X.1 p0), (1, .int a1), (2, .int t.1), (3, .int t.2)] []) (fun t o hs  hK => ?_) n (a2, a3) o h  hK
  rcases hs with h | ⟨u, h, hu⟩
  · exact b_X1_stepsToRing_4 O hi hn h hK
  · exact b_X1_stepsToRing_4 O hi hn h (show KI _ _ (.inr u) from hu hK)
def f_X1_stepsToRing (M : MM) (p0 : Nat) (a1 : Int32) : Option (Int32) :=
  if p0 < M.1 ∧ kd p0 = 1 then (lp (fun t => z_X1_stepsToRing_4 M p0 a1 t.1 t.2) FU (a1, 1)) else none
theorem r_X1_stepsToRing {M : MM} {p0 : Nat} {a1 : Int32} {o : Int32} (h : f_X1_stepsToRing M p0 a1 = some o) : p0 < M.1 ∧ kd p0 = 1 := by
  unfold f_X1_stepsToRing at h
  exact (gd h).1
theorem cy_X1_stepsToRing : CallY yX1_stepsToRing cX1_stepsToRing 6 (some .int) 1 := ⟨by decide +kernel, tw_548, tw_42, by decide⟩
set_option maxHeartbeats 4000000 in
set_option maxRecDepth 100000 in
theorem c_X1_stepsToRing {G : GG} {M : MM} {p0 : Nat} {a1 : Int32} {r : Int32} (h : f_X1_stepsToRing M p0 a1 = some r) : Ct G yX1_stepsToRing cX1_stepsToRing 6 (some .int) 0 [rf G p0, .int a1] M (some (.int r)) M := by
  refine ct_of (by decide +kernel) (Nat.le_of_ble_eq_true rfl) (fun X hX O hK hi0 => ?_)
  subst hX
  obtain ⟨lim, hlim⟩ : ∃ z, z = M.1 := ⟨_, rfl⟩
  rw [← hlim] at O
  replace O : OKX X cX1_stepsToRing RX1 0 lim 6 := O
  have hi : True := trivial
  have hn : M.1 ≤ lim := Nat.le_of_eq hlim.symm
  show WS X M 0 [(0, rf X.1 p0), (1, .int a1)] []
  unfold f_X1_stepsToRing at h
  obtain ⟨hg0, h⟩ := gd h
  refine s_iload_n (pc := 0) O dX1_stepsToRing_0 rfl 1 rfl ?_
  refine s_istore_n (pc := 1) O (loc' := [(2, .int a1), (0, rf X.1 p0), (1, .int a1)]) dX1_stepsToRing_1 rfl (by decide) rfl ?_
  refine s_iconst (pc := 2) O (v := 1) dX1_stepsToRing_2 (by decide) ?_
  refine s_istore_n (pc := 3) O (loc' := [(3, .int 1), (2, .int a1), (0, rf X.1 p0), (1, .int a1)]) dX1_stepsToRing_3 rfl (by decide) rfl ?_
  exact s_sub (pc := 4) O [2, 3, 1, 0] rfl (l_X1_stepsToRing_4 O hi hn h hK)

def f_X2_lengthened (M : MM) (a0 : Int32) (a1 : Int32) : Option (Int32) :=
  some ((((a0 * 4) + a1) + 1))
theorem cy_X2_lengthened : CallY yX2_lengthened cX2_lengthened 2 (some .int) 2 := ⟨by decide +kernel, tw_396, tw_46, by decide⟩
set_option maxHeartbeats 4000000 in
set_option maxRecDepth 100000 in
theorem c_X2_lengthened {G : GG} {M : MM} {a0 : Int32} {a1 : Int32} {r : Int32} (h : f_X2_lengthened M a0 a1 = some r) : Ct G yX2_lengthened cX2_lengthened 2 (some .int) 0 [.int a0, .int a1] M (some (.int r)) M := by
  refine ct_of (by decide +kernel) (Nat.le_of_ble_eq_true rfl) (fun X hX O hK hi0 => ?_)
  subst hX
  obtain ⟨lim, hlim⟩ : ∃ z, z = M.1 := ⟨_, rfl⟩
  rw [← hlim] at O
  replace O : OKX X cX2_lengthened RX2 0 lim 2 := O
  have hi : True := trivial
  have hn : M.1 ≤ lim := Nat.le_of_eq hlim.symm
  show WS X M 0 [(0, .int a0), (1, .int a1)] []
  unfold f_X2_lengthened at h
  refine s_iload_n (pc := 0) O dX2_lengthened_0 rfl 0 rfl ?_
  refine s_iconst (pc := 1) O (v := 4) dX2_lengthened_1 (by decide) ?_
  refine s_imul (pc := 2) O dX2_lengthened_2 ?_
  refine s_iload_n (pc := 3) O dX2_lengthened_3 rfl 1 rfl ?_
  refine s_iadd (pc := 4) O dX2_lengthened_4 ?_
  refine s_iconst (pc := 5) O (v := 1) dX2_lengthened_5 (by decide) ?_
  refine s_iadd (pc := 6) O dX2_lengthened_6 ?_
  cases h
  exact s_iret (pc := 7) O hK dX2_lengthened_7

def f_X3_add (M : MM) (p0 : Nat) (a1 : Int32) : Option (MM) :=
  if p0 < M.1 ∧ kd p0 = 3 then ((fI M p0 3 1).bind fun v1 => if (200 : Int32) ≤ v1 then (some M) else ((fR M p0 3 0).bind fun v2 => (fI M p0 3 1).bind fun v3 => (waI M v2 v3 a1).bind fun M4 => (fI M4 p0 3 1).bind fun v5 => (wfI M4 p0 3 1 ((v5 + 1))).bind fun M6 => some M6)) else none
theorem r_X3_add {M : MM} {p0 : Nat} {a1 : Int32} {o : MM} (h : f_X3_add M p0 a1 = some o) : p0 < M.1 ∧ kd p0 = 3 := by
  unfold f_X3_add at h
  exact (gd h).1
theorem cy_X3_add : CallY yX3_add cX3_add 2 (none) 1 := ⟨by decide +kernel, tw_278, tw_41, by decide⟩
set_option maxHeartbeats 4000000 in
set_option maxRecDepth 100000 in
theorem c_X3_add {G : GG} {M : MM} {p0 : Nat} {a1 : Int32} {M' : MM} (h : f_X3_add M p0 a1 = some M') (hn : M.1 ≤ M'.1) : Ct G yX3_add cX3_add 2 (none) 0 [rf G p0, .int a1] M (none) M' := by
  refine ct_of (by decide +kernel) (Nat.le_of_ble_eq_true rfl) (fun X hX O hK hi0 => ?_)
  subst hX
  obtain ⟨lim, hlim⟩ : ∃ z, z = M'.1 := ⟨_, rfl⟩
  rw [← hlim] at O hn
  replace O : OKX X cX3_add RX3 0 lim 2 := O
  have hi : True := trivial
  show WS X M 0 [(0, rf X.1 p0), (1, .int a1)] []
  unfold f_X3_add at h
  obtain ⟨hg0, h⟩ := gd h
  refine s_aload_n (pc := 0) O dX3_add_0 rfl 0 rfl ?_
  obtain ⟨v1, e, h⟩ := bd h
  refine s_getI (pc := 1) O kc3 (k := 1) rfl tw_70 e dX3_add_1 ?_
  refine s_sipush (pc := 4) O (v := 200) dX3_add_4 (by decide) ?_
  refine s_icmp_ge (pc := 7) O (tgt := 30) dX3_add_7 (by decide) (fun c => ?_) (fun c => ?_)
  · have h := ifp c h
    cases h
    exact s_vret (pc := 30) O hK dX3_add_30
  · have h := ifn c h
    refine s_aload_n (pc := 10) O dX3_add_10 rfl 0 rfl ?_
    obtain ⟨v2, e, h⟩ := bd h
    refine s_getR (pc := 11) O kc3 (k := 0) rfl tw_68 e dX3_add_11 ?_
    refine s_aload_n (pc := 14) O dX3_add_14 rfl 0 rfl ?_
    obtain ⟨v3, e, h⟩ := bd h
    refine s_getI (pc := 15) O kc3 (k := 1) rfl tw_70 e dX3_add_15 ?_
    refine s_iload_n (pc := 18) O dX3_add_18 rfl 1 rfl ?_
    obtain ⟨M4, e, h⟩ := bd h
    refine s_astI (pc := 19) O e dX3_add_19 ?_
    have hn : M4.1 ≤ lim := by rw [waI_n e]; exact hn
    refine s_aload_n (pc := 20) O dX3_add_20 rfl 0 rfl ?_
    refine s_dup (pc := 21) O dX3_add_21 rfl ?_
    obtain ⟨v5, e, h⟩ := bd h
    refine s_getI (pc := 22) O kc3 (k := 1) rfl tw_70 e dX3_add_22 ?_
    refine s_iconst (pc := 25) O (v := 1) dX3_add_25 (by decide) ?_
    refine s_iadd (pc := 26) O dX3_add_26 ?_
    obtain ⟨M6, e, h⟩ := bd h
    refine s_putI (pc := 27) O kc3 (k := 1) rfl rfl rfl tw_70 e dX3_add_27 ?_
    have hn : M6.1 ≤ lim := by rw [wfI_n e]; exact hn
    cases h
    exact s_vret (pc := 30) O hK dX3_add_30

def f_X3_isIn (M : MM) (p0 : Nat) (a1 : Int32) (a2 : Int32) (a3 : Int32) : Option (Int32) :=
  if p0 < M.1 ∧ kd p0 = 3 then ((fR M p0 3 0).bind fun v1 => (aI M v1 a1).bind fun v2 => if v2 < a2 then (some 0) else ((fR M p0 3 0).bind fun v3 => (aI M v3 a1).bind fun v4 => if a3 < v4 then (some 0) else (some 1))) else none
theorem r_X3_isIn {M : MM} {p0 : Nat} {a1 : Int32} {a2 : Int32} {a3 : Int32} {o : Int32} (h : f_X3_isIn M p0 a1 a2 a3 = some o) : p0 < M.1 ∧ kd p0 = 3 := by
  unfold f_X3_isIn at h
  exact (gd h).1
theorem cy_X3_isIn : CallY yX3_isIn cX3_isIn 4 (some .boolean) 3 := ⟨by decide +kernel, tw_302, tw_41, by decide⟩
set_option maxHeartbeats 4000000 in
set_option maxRecDepth 100000 in
theorem c_X3_isIn {G : GG} {M : MM} {p0 : Nat} {a1 : Int32} {a2 : Int32} {a3 : Int32} {r : Int32} (h : f_X3_isIn M p0 a1 a2 a3 = some r) : Ct G yX3_isIn cX3_isIn 4 (some .boolean) 0 [rf G p0, .int a1, .int a2, .int a3] M (some (.int r)) M := by
  refine ct_of (by decide +kernel) (Nat.le_of_ble_eq_true rfl) (fun X hX O hK hi0 => ?_)
  subst hX
  obtain ⟨lim, hlim⟩ : ∃ z, z = M.1 := ⟨_, rfl⟩
  rw [← hlim] at O
  replace O : OKX X cX3_isIn RX3 0 lim 4 := O
  have hi : True := trivial
  have hn : M.1 ≤ lim := Nat.le_of_eq hlim.symm
  show WS X M 0 [(0, rf X.1 p0), (1, .int a1), (2, .int a2), (3, .int a3)] []
  unfold f_X3_isIn at h
  obtain ⟨hg0, h⟩ := gd h
  refine s_aload_n (pc := 0) O dX3_isIn_0 rfl 0 rfl ?_
  obtain ⟨v1, e, h⟩ := bd h
  refine s_getR (pc := 1) O kc3 (k := 0) rfl tw_68 e dX3_isIn_1 ?_
  refine s_iload_n (pc := 4) O dX3_isIn_4 rfl 1 rfl ?_
  obtain ⟨v2, e, h⟩ := bd h
  refine s_aldI (pc := 5) O e dX3_isIn_5 ?_
  refine s_iload_n (pc := 6) O dX3_isIn_6 rfl 2 rfl ?_
  refine s_icmp_lt (pc := 7) O (tgt := 24) dX3_isIn_7 (by decide) (fun c => ?_) (fun c => ?_)
  · have h := ifp c h
    refine s_iconst (pc := 24) O (v := 0) dX3_isIn_24 (by decide) ?_
    cases h
    exact s_zret (pc := 25) O (by decide) hK dX3_isIn_25
  · have h := ifn c h
    refine s_aload_n (pc := 10) O dX3_isIn_10 rfl 0 rfl ?_
    obtain ⟨v3, e, h⟩ := bd h
    refine s_getR (pc := 11) O kc3 (k := 0) rfl tw_68 e dX3_isIn_11 ?_
    refine s_iload_n (pc := 14) O dX3_isIn_14 rfl 1 rfl ?_
    obtain ⟨v4, e, h⟩ := bd h
    refine s_aldI (pc := 15) O e dX3_isIn_15 ?_
    refine s_iload_n (pc := 16) O dX3_isIn_16 rfl 3 rfl ?_
    refine s_icmp_gt (pc := 17) O (tgt := 24) dX3_isIn_17 (by decide) (fun c => ?_) (fun c => ?_)
    · have h := ifp c h
      refine s_iconst (pc := 24) O (v := 0) dX3_isIn_24 (by decide) ?_
      cases h
      exact s_zret (pc := 25) O (by decide) hK dX3_isIn_25
    · have h := ifn c h
      refine s_iconst (pc := 20) O (v := 1) dX3_isIn_20 (by decide) ?_
      refine s_goto (pc := 21) O (tgt := 25) dX3_isIn_21 (by decide) ?_
      cases h
      exact s_zret (pc := 25) O (by decide) hK dX3_isIn_25

def f_X3_rewind (M : MM) (p0 : Nat) : Option (MM) :=
  if p0 < M.1 ∧ kd p0 = 3 then ((wfI M p0 3 3 0).bind fun M1 => some M1) else none
theorem r_X3_rewind {M : MM} {p0 : Nat} {o : MM} (h : f_X3_rewind M p0 = some o) : p0 < M.1 ∧ kd p0 = 3 := by
  unfold f_X3_rewind at h
  exact (gd h).1
theorem cy_X3_rewind : CallY yX3_rewind cX3_rewind 1 (none) 0 := ⟨by decide +kernel, tw_294, tw_41, by decide⟩
set_option maxHeartbeats 4000000 in
set_option maxRecDepth 100000 in
theorem c_X3_rewind {G : GG} {M : MM} {p0 : Nat} {M' : MM} (h : f_X3_rewind M p0 = some M') (hn : M.1 ≤ M'.1) : Ct G yX3_rewind cX3_rewind 1 (none) 0 [rf G p0] M (none) M' := by
  refine ct_of (by decide +kernel) (Nat.le_of_ble_eq_true rfl) (fun X hX O hK hi0 => ?_)
  subst hX
  obtain ⟨lim, hlim⟩ : ∃ z, z = M'.1 := ⟨_, rfl⟩
  rw [← hlim] at O hn
  replace O : OKX X cX3_rewind RX3 0 lim 1 := O
  have hi : True := trivial
  show WS X M 0 [(0, rf X.1 p0)] []
  unfold f_X3_rewind at h
  obtain ⟨hg0, h⟩ := gd h
  refine s_aload_n (pc := 0) O dX3_rewind_0 rfl 0 rfl ?_
  refine s_iconst (pc := 1) O (v := 0) dX3_rewind_1 (by decide) ?_
  obtain ⟨M1, e, h⟩ := bd h
  refine s_putI (pc := 2) O kc3 (k := 3) rfl rfl rfl tw_75 e dX3_rewind_2 ?_
  have hn : M1.1 ≤ lim := by rw [wfI_n e]; exact hn
  cases h
  exact s_vret (pc := 5) O hK dX3_rewind_5

def f_X6_clear (M : MM) (p0 : Nat) : Option (Int32 × MM) :=
  if p0 < M.1 ∧ kd p0 = 6 then ((fR M p0 6 0).bind fun v1 => (fI M v1 3 1).bind fun v2 => (fR M p0 6 0).bind fun v3 => (wfI M v3 3 1 0).bind fun M4 => some ((v2, M4))) else none
theorem r_X6_clear {M : MM} {p0 : Nat} {o : Int32 × MM} (h : f_X6_clear M p0 = some o) : p0 < M.1 ∧ kd p0 = 6 := by
  unfold f_X6_clear at h
  exact (gd h).1
theorem cy_X6_clear : CallY yX6_clear cX6_clear 2 (some .int) 0 := ⟨by decide +kernel, tw_282, tw_40, by decide⟩
set_option maxHeartbeats 4000000 in
set_option maxRecDepth 100000 in
theorem c_X6_clear {G : GG} {M : MM} {p0 : Nat} {r : Int32} {M' : MM} (h : f_X6_clear M p0 = some (r, M')) (hn : M.1 ≤ M'.1) : Ct G yX6_clear cX6_clear 2 (some .int) 0 [rf G p0] M (some (.int r)) M' := by
  refine ct_of (by decide +kernel) (Nat.le_of_ble_eq_true rfl) (fun X hX O hK hi0 => ?_)
  subst hX
  obtain ⟨lim, hlim⟩ : ∃ z, z = M'.1 := ⟨_, rfl⟩
  rw [← hlim] at O hn
  replace O : OKX X cX6_clear RX6 0 lim 2 := O
  have hi : True := trivial
  show WS X M 0 [(0, rf X.1 p0)] []
  replace hK : (fun (q : Int32 × MM) => RTX X (some .int) (some (.int q.1)) q.2) (r, M') := hK
  generalize (r, M') = o at h hK
  unfold f_X6_clear at h
  obtain ⟨hg0, h⟩ := gd h
  refine s_aload_n (pc := 0) O dX6_clear_0 rfl 0 rfl ?_
  obtain ⟨v1, e, h⟩ := bd h
  refine s_getR (pc := 1) O kc6 (k := 0) rfl tw_249 e dX6_clear_1 ?_
  obtain ⟨v2, e, h⟩ := bd h
  refine s_getI (pc := 4) O kc3 (k := 1) rfl tw_71 e dX6_clear_4 ?_
  refine s_istore_n (pc := 7) O (loc' := [(1, .int v2), (0, rf X.1 p0)]) dX6_clear_7 rfl (by decide) rfl ?_
  refine s_aload_n (pc := 8) O dX6_clear_8 rfl 1 rfl ?_
  obtain ⟨v3, e, h⟩ := bd h
  refine s_getR (pc := 9) O kc6 (k := 0) rfl tw_249 e dX6_clear_9 ?_
  refine s_iconst (pc := 12) O (v := 0) dX6_clear_12 (by decide) ?_
  obtain ⟨M4, e, h⟩ := bd h
  refine s_putI (pc := 13) O kc3 (k := 1) rfl rfl rfl tw_71 e dX6_clear_13 ?_
  have hn : M4.1 ≤ lim := by rw [wfI_n e]; exact hn
  refine s_iload_n (pc := 16) O dX6_clear_16 rfl 0 rfl ?_
  cases h
  exact s_iret (pc := 17) O hK dX6_clear_17

