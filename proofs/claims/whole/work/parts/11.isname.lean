def z_X3_isName_20 (M : MM) (p0 : Nat) (p1 : Nat) (a2 : Int32) : Option ((Int32) ⊕ (Int32)) :=
  (f_slen p1).bind fun v1 => if v1 ≤ a2 then (some ((.inl 1))) else ((fR M p0 3 0).bind fun v2 => (fI M p0 3 2).bind fun v3 => (aI M v2 ((v3 + a2))).bind fun v4 => (f_scharAt p1 a2).bind fun v5 => if v4 = v5 then (some ((.inr ((a2 + 1))))) else (some ((.inl 0))))
set_option maxHeartbeats 4000000 in
set_option maxRecDepth 100000 in
theorem b_X3_isName_20 {X : CT} {lim : Nat} {M : MM} {p0 : Nat} {p1 : Nat} {a2 : Int32} (O : OKX X cX3_isName RX3 5 lim 3) (hi : True) (hn : M.1 ≤ lim) {o : (Int32) ⊕ (Int32)} (h : z_X3_isName_20 M p0 p1 a2 = some o) (hK : (KI (fun (q : Int32) => RTX X (some .boolean) (some (.int q)) M) (fun (t : Int32) => WS X M 20 [(0, rf X.1 p0), (1, sf X.1 p1), (2, .int t)] [])) o) : WS X M 20 [(0, rf X.1 p0), (1, sf X.1 p1), (2, .int a2)] [] := by
  unfold z_X3_isName_20 at h
  refine s_iload_n (pc := 20) O dX3_isName_20 rfl 2 rfl ?_
  refine s_aload_nS (pc := 21) O dX3_isName_21 rfl 1 rfl ?_
  obtain ⟨v1, e, h⟩ := bd h
  refine s_callSt (pc := 22) O (As := []) (r := some (.int v1)) (r_slen e) (c_slen (G := X.1) e) cy_J0_length_8abf5 tw_312 tw_313 tw_314 (by decide) rfl (Nat.le_refl _) hn rfl (Nat.le_of_ble_eq_true rfl) dX3_isName_22 ?_
  refine s_icmp_ge (pc := 25) O (tgt := 55) dX3_isName_25 (by decide) (fun c => ?_) (fun c => ?_)
  · have h := ifp c h
    refine s_iconst (pc := 55) O (v := 1) dX3_isName_55 (by decide) ?_
    cases h
    exact s_zret (pc := 56) O (by decide) hK dX3_isName_56
  · have h := ifn c h
    refine s_aload_n (pc := 28) O dX3_isName_28 rfl 0 rfl ?_
    obtain ⟨v2, e, h⟩ := bd h
    refine s_getR (pc := 29) O kc3 (k := 0) rfl tw_68 e dX3_isName_29 ?_
    refine s_aload_n (pc := 32) O dX3_isName_32 rfl 0 rfl ?_
    obtain ⟨v3, e, h⟩ := bd h
    refine s_getI (pc := 33) O kc3 (k := 2) rfl tw_72 e dX3_isName_33 ?_
    refine s_iload_n (pc := 36) O dX3_isName_36 rfl 2 rfl ?_
    refine s_iadd (pc := 37) O dX3_isName_37 ?_
    obtain ⟨v4, e, h⟩ := bd h
    refine s_aldI (pc := 38) O e dX3_isName_38 ?_
    refine s_aload_nS (pc := 39) O dX3_isName_39 rfl 1 rfl ?_
    refine s_iload_n (pc := 40) O dX3_isName_40 rfl 2 rfl ?_
    obtain ⟨v5, e, h⟩ := bd h
    refine s_callSt (pc := 41) O (As := [.int a2]) (r := some (.int v5)) (r_scharAt e) (c_scharAt (G := X.1) e) cy_J0_charAt_5068e tw_322 tw_323 tw_324 (by decide) rfl (Nat.le_refl _) hn rfl (Nat.le_of_ble_eq_true rfl) dX3_isName_41 ?_
    refine s_icmp_eq (pc := 44) O (tgt := 49) dX3_isName_44 (by decide) (fun c => ?_) (fun c => ?_)
    · have h := ifp c h
      refine s_iinc (pc := 49) O (v := (a2 + 1)) (loc' := [(2, .int (a2 + 1)), (0, rf X.1 p0), (1, sf X.1 p1)]) dX3_isName_49 2 rfl rfl (by decide) rfl ?_
      refine s_goto (pc := 52) O (tgt := 20) dX3_isName_52 (by decide) ?_
      cases h
      exact s_sub (pc := 20) O [1, 2, 0] rfl hK
    · have h := ifn c h
      refine s_iconst (pc := 47) O (v := 0) dX3_isName_47 (by decide) ?_
      cases h
      exact s_zret (pc := 48) O (by decide) hK dX3_isName_48
set_option maxHeartbeats 4000000 in
set_option maxRecDepth 100000 in
theorem l_X3_isName_20 {X : CT} {lim : Nat} {M : MM} {p0 : Nat} {p1 : Nat} {a2 : Int32} (O : OKX X cX3_isName RX3 5 lim 3) (hi : True) (hn : M.1 ≤ lim) {o : Int32} {n : Nat} (h : lp (fun t => z_X3_isName_20 M p0 p1 t) n (a2) = some o) (hK : (fun (q : Int32) => RTX X (some .boolean) (some (.int q)) M) o) : WS X M 20 [(0, rf X.1 p0), (1, sf X.1 p1), (2, .int a2)] [] := by
  refine lp_ind (P := fun (o : Int32) (t : Int32) => (fun (q : Int32) => RTX X (some .boolean) (some (.int q)) M) o → WS X M 20 [(0, rf X.1 p0), (1, sf X.1 p1), (2, .int t)] []) (fun t o hs  hK => ?_) n (a2) o h  hK
  rcases hs with h | ⟨u, h, hu⟩
  · exact b_X3_isName_20 O hi hn h hK
  · exact b_X3_isName_20 O hi hn h (show KI _ _ (.inr u) from hu hK)
def f_X3_isName (M : MM) (p0 : Nat) (p1 : Nat) : Option (Int32) :=
  if p0 < M.1 ∧ kd p0 = 3 then ((fI M p0 3 3).bind fun v1 => (fI M p0 3 2).bind fun v2 => (f_slen p1).bind fun v3 => if (v1 - v2) = v3 then (lp (fun t => z_X3_isName_20 M p0 p1 t) FU (0)) else (some 0)) else none
theorem r_X3_isName {M : MM} {p0 : Nat} {p1 : Nat} {o : Int32} (h : f_X3_isName M p0 p1 = some o) : p0 < M.1 ∧ kd p0 = 3 := by
  unfold f_X3_isName at h
  exact (gd h).1
theorem cy_X3_isName : CallY yX3_isName cX3_isName 3 (some .boolean) 1 := ⟨by decide +kernel, tw_311, tw_41, by decide⟩
set_option maxHeartbeats 4000000 in
set_option maxRecDepth 100000 in
theorem c_X3_isName {G : GG} {M : MM} {p0 : Nat} {p1 : Nat} {r : Int32} (h : f_X3_isName M p0 p1 = some r) : Ct G yX3_isName cX3_isName 3 (some .boolean) 5 [rf G p0, sf G p1] M (some (.int r)) M := by
  refine ct_of (by decide +kernel) (Nat.le_of_ble_eq_true rfl) (fun X hX O hK hi0 => ?_)
  subst hX
  obtain ⟨lim, hlim⟩ : ∃ z, z = M.1 := ⟨_, rfl⟩
  rw [← hlim] at O
  replace O : OKX X cX3_isName RX3 5 lim 3 := O
  have hi : True := trivial
  have hn : M.1 ≤ lim := Nat.le_of_eq hlim.symm
  show WS X M 0 [(0, rf X.1 p0), (1, sf X.1 p1)] []
  unfold f_X3_isName at h
  obtain ⟨hg0, h⟩ := gd h
  refine s_aload_n (pc := 0) O dX3_isName_0 rfl 0 rfl ?_
  obtain ⟨v1, e, h⟩ := bd h
  refine s_getI (pc := 1) O kc3 (k := 3) rfl tw_75 e dX3_isName_1 ?_
  refine s_aload_n (pc := 4) O dX3_isName_4 rfl 0 rfl ?_
  obtain ⟨v2, e, h⟩ := bd h
  refine s_getI (pc := 5) O kc3 (k := 2) rfl tw_72 e dX3_isName_5 ?_
  refine s_isub (pc := 8) O dX3_isName_8 ?_
  refine s_aload_nS (pc := 9) O dX3_isName_9 rfl 1 rfl ?_
  obtain ⟨v3, e, h⟩ := bd h
  refine s_callSt (pc := 10) O (As := []) (r := some (.int v3)) (r_slen e) (c_slen (G := X.1) e) cy_J0_length_8abf5 tw_312 tw_313 tw_314 (by decide) rfl (Nat.le_refl _) hn rfl (Nat.le_of_ble_eq_true rfl) dX3_isName_10 ?_
  refine s_icmp_eq (pc := 13) O (tgt := 18) dX3_isName_13 (by decide) (fun c => ?_) (fun c => ?_)
  · have h := ifp c h
    refine s_iconst (pc := 18) O (v := 0) dX3_isName_18 (by decide) ?_
    refine s_istore_n (pc := 19) O (loc' := [(2, .int 0), (0, rf X.1 p0), (1, sf X.1 p1)]) dX3_isName_19 rfl (by decide) rfl ?_
    exact s_sub (pc := 20) O [1, 2, 0] rfl (l_X3_isName_20 O hi hn h hK)
  · have h := ifn c h
    refine s_iconst (pc := 16) O (v := 0) dX3_isName_16 (by decide) ?_
    cases h
    exact s_zret (pc := 17) O (by decide) hK dX3_isName_17
