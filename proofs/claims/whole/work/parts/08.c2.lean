def f_X6_mute (M : MM) (p0 : Nat) (a1 : Int32) : Option (Int32) :=
  if p0 < M.1 ∧ kd p0 = 6 then (if a1 < 0 then (some ((-1))) else (if a1 ≤ 1 then (if a1 = 0 then ((fR M p0 6 1).bind fun v3 => (f_X1_countMute M v3).bind fun v4 => some v4) else ((fR M p0 6 1).bind fun v1 => (f_X1_firstMute M v1).bind fun v2 => some v2)) else (some ((-1))))) else none
theorem r_X6_mute {M : MM} {p0 : Nat} {a1 : Int32} {o : Int32} (h : f_X6_mute M p0 a1 = some o) : p0 < M.1 ∧ kd p0 = 6 := by
  unfold f_X6_mute at h
  exact (gd h).1
theorem cy_X6_mute : CallY yX6_mute cX6_mute 2 (some .int) 1 := ⟨by decide +kernel, tw_508, tw_40, by decide⟩
set_option maxHeartbeats 4000000 in
set_option maxRecDepth 100000 in
theorem c_X6_mute {G : GG} {M : MM} {p0 : Nat} {a1 : Int32} {r : Int32} (h : f_X6_mute M p0 a1 = some r) : Ct G yX6_mute cX6_mute 2 (some .int) 1 [rf G p0, .int a1] M (some (.int r)) M := by
  refine ct_of (by decide +kernel) (Nat.le_of_ble_eq_true rfl) (fun X hX O hK hi0 => ?_)
  subst hX
  obtain ⟨lim, hlim⟩ : ∃ z, z = M.1 := ⟨_, rfl⟩
  rw [← hlim] at O
  replace O : OKX X cX6_mute RX6 1 lim 2 := O
  have hi : True := trivial
  have hn : M.1 ≤ lim := Nat.le_of_eq hlim.symm
  show WS X M 0 [(0, rf X.1 p0), (1, .int a1)] []
  unfold f_X6_mute at h
  obtain ⟨hg0, h⟩ := gd h
  refine s_iload_n (pc := 0) O dX6_mute_0 rfl 1 rfl ?_
  refine s_if_lt (pc := 1) O (tgt := 9) dX6_mute_1 (by decide) (fun c => ?_) (fun c => ?_)
  · have h := ifp c h
    refine s_iconst (pc := 9) O (v := (-1)) dX6_mute_9 (by decide) ?_
    cases h
    exact s_iret (pc := 10) O hK dX6_mute_10
  · have h := ifn c h
    refine s_iload_n (pc := 4) O dX6_mute_4 rfl 1 rfl ?_
    refine s_iconst (pc := 5) O (v := 1) dX6_mute_5 (by decide) ?_
    refine s_icmp_le (pc := 6) O (tgt := 11) dX6_mute_6 (by decide) (fun c => ?_) (fun c => ?_)
    · have h := ifp c h
      refine s_iload_n (pc := 11) O dX6_mute_11 rfl 1 rfl ?_
      refine s_if_ne (pc := 12) O (tgt := 25) dX6_mute_12 (by decide) (fun c => ?_) (fun c => ?_)
      · have h := ifn c h
        refine s_aload_n (pc := 25) O dX6_mute_25 rfl 0 rfl ?_
        obtain ⟨v1, e, h⟩ := bd h
        refine s_getR (pc := 26) O kc6 (k := 1) rfl tw_250 e dX6_mute_26 ?_
        obtain ⟨v2, e, h⟩ := bd h
        refine s_callVi (pc := 29) O (As := []) kc1 (c_X1_firstMute (G := X.1) e) cy_X1_firstMute tw_513 tw_514 tw_515 (by decide) rfl (Nat.le_refl _) hn (r_X1_firstMute e).1 (r_X1_firstMute e).2 rfl (Nat.le_of_ble_eq_true rfl) dX6_mute_29 ?_
        cases h
        exact s_iret (pc := 32) O hK dX6_mute_32
      · have h := ifp c h
        refine s_aload_n (pc := 15) O dX6_mute_15 rfl 0 rfl ?_
        obtain ⟨v3, e, h⟩ := bd h
        refine s_getR (pc := 16) O kc6 (k := 1) rfl tw_250 e dX6_mute_16 ?_
        obtain ⟨v4, e, h⟩ := bd h
        refine s_callVi (pc := 19) O (As := []) kc1 (c_X1_countMute (G := X.1) e) cy_X1_countMute tw_509 tw_510 tw_511 (by decide) rfl (Nat.le_refl _) hn (r_X1_countMute e).1 (r_X1_countMute e).2 rfl (Nat.le_of_ble_eq_true rfl) dX6_mute_19 ?_
        refine s_goto (pc := 22) O (tgt := 32) dX6_mute_22 (by decide) ?_
        cases h
        exact s_iret (pc := 32) O hK dX6_mute_32
    · have h := ifn c h
      refine s_iconst (pc := 9) O (v := (-1)) dX6_mute_9 (by decide) ?_
      cases h
      exact s_iret (pc := 10) O hK dX6_mute_10

def f_X6_rateBill (M : MM) (p0 : Nat) (a1 : Int32) : Option (Int32 × MM) :=
  if p0 < M.1 ∧ kd p0 = 6 then ((fJ M p0 6 6).bind fun v1 => (wfJ M p0 6 6 ((v1 + 100))).bind fun M2 => (f_X6_rateWord M2 p0 a1).bind fun v3 => if v3.2.1 = M2.1 then ((fR v3.2 p0 6 4).bind fun v4 => (fR v3.2 v4 4 0).bind fun v5 => (aR v3.2 v5 13 a1).bind fun v6 => (fI v3.2 v6 5 4).bind fun v7 => some (((v3.1 - v7), v3.2))) else none) else none
theorem r_X6_rateBill {M : MM} {p0 : Nat} {a1 : Int32} {o : Int32 × MM} (h : f_X6_rateBill M p0 a1 = some o) : p0 < M.1 ∧ kd p0 = 6 := by
  unfold f_X6_rateBill at h
  exact (gd h).1
theorem cy_X6_rateBill : CallY yX6_rateBill cX6_rateBill 2 (some .int) 1 := ⟨by decide +kernel, tw_595, tw_40, by decide⟩
set_option maxHeartbeats 4000000 in
set_option maxRecDepth 100000 in
theorem c_X6_rateBill {G : GG} {M : MM} {p0 : Nat} {a1 : Int32} {r : Int32} {M' : MM} (h : f_X6_rateBill M p0 a1 = some (r, M')) (hn : M.1 ≤ M'.1) : Ct G yX6_rateBill cX6_rateBill 2 (some .int) 1 [rf G p0, .int a1] M (some (.int r)) M' := by
  refine ct_of (by decide +kernel) (Nat.le_of_ble_eq_true rfl) (fun X hX O hK hi0 => ?_)
  subst hX
  obtain ⟨lim, hlim⟩ : ∃ z, z = M'.1 := ⟨_, rfl⟩
  rw [← hlim] at O hn
  replace O : OKX X cX6_rateBill RX6 1 lim 2 := O
  have hi : True := trivial
  show WS X M 0 [(0, rf X.1 p0), (1, .int a1)] []
  replace hK : (fun (q : Int32 × MM) => RTX X (some .int) (some (.int q.1)) q.2) (r, M') := hK
  generalize (r, M') = o at h hK
  unfold f_X6_rateBill at h
  obtain ⟨hg0, h⟩ := gd h
  refine s_aload_n (pc := 0) O dX6_rateBill_0 rfl 0 rfl ?_
  refine s_dup (pc := 1) O dX6_rateBill_1 rfl ?_
  obtain ⟨v1, e, h⟩ := bd h
  refine s_getJ (pc := 2) O kc6 (k := 6) rfl tw_255 e dX6_rateBill_2 ?_
  refine s_ldc2 (pc := 5) O dX6_rateBill_5 tw_596 ?_
  refine s_ladd (pc := 8) O dX6_rateBill_8 ?_
  obtain ⟨M2, e, h⟩ := bd h
  refine s_putJ (pc := 9) O kc6 (k := 6) rfl rfl rfl tw_255 e dX6_rateBill_9 ?_
  have hn : M2.1 ≤ lim := by rw [wfJ_n e]; exact hn
  refine s_aload_n (pc := 12) O dX6_rateBill_12 rfl 0 rfl ?_
  refine s_iload_n (pc := 13) O dX6_rateBill_13 rfl 1 rfl ?_
  obtain ⟨v3, e, h⟩ := bd h
  obtain ⟨hg, h⟩ := gd h
  refine s_callVi (pc := 14) O (As := [.int a1]) kc6 (c_X6_rateWord (G := X.1) e (Nat.le_of_eq hg.symm)) cy_X6_rateWord tw_583 tw_585 tw_12 (by decide) rfl (Nat.le_of_eq hg.symm) (by rw [hg]; exact hn) (r_X6_rateWord e).1 (r_X6_rateWord e).2 rfl (Nat.le_of_ble_eq_true rfl) dX6_rateBill_14 ?_
  have hn : v3.2.1 ≤ lim := by rw [hg]; exact hn
  refine s_aload_n (pc := 17) O dX6_rateBill_17 rfl 0 rfl ?_
  obtain ⟨v4, e, h⟩ := bd h
  refine s_getR (pc := 18) O kc6 (k := 4) rfl tw_253 e dX6_rateBill_18 ?_
  obtain ⟨v5, e, h⟩ := bd h
  refine s_getR (pc := 21) O kc4 (k := 0) rfl tw_230 e dX6_rateBill_21 ?_
  refine s_iload_n (pc := 24) O dX6_rateBill_24 rfl 1 rfl ?_
  obtain ⟨v6, e, h⟩ := bd h
  refine s_aldR13 (pc := 25) O e dX6_rateBill_25 ?_
  obtain ⟨v7, e, h⟩ := bd h
  refine s_getI (pc := 26) O kc5 (k := 4) rfl tw_200 e dX6_rateBill_26 ?_
  refine s_isub (pc := 29) O dX6_rateBill_29 ?_
  cases h
  exact s_iret (pc := 30) O hK dX6_rateBill_30

def f_X6_rateThreat (M : MM) (p0 : Nat) (a1 : Int32) : Option (Int32 × MM) :=
  if p0 < M.1 ∧ kd p0 = 6 then ((fJ M p0 6 6).bind fun v1 => (wfJ M p0 6 6 ((v1 + 100000))).bind fun M2 => (f_X6_rateWord M2 p0 a1).bind fun v3 => if v3.2.1 = M2.1 then ((fR v3.2 p0 6 2).bind fun v4 => (f_X0_timesOf v3.2 v4 a1).bind fun v5 => some (((v3.1 + v5), v3.2))) else none) else none
theorem r_X6_rateThreat {M : MM} {p0 : Nat} {a1 : Int32} {o : Int32 × MM} (h : f_X6_rateThreat M p0 a1 = some o) : p0 < M.1 ∧ kd p0 = 6 := by
  unfold f_X6_rateThreat at h
  exact (gd h).1
theorem cy_X6_rateThreat : CallY yX6_rateThreat cX6_rateThreat 2 (some .int) 1 := ⟨by decide +kernel, tw_610, tw_40, by decide⟩
set_option maxHeartbeats 4000000 in
set_option maxRecDepth 100000 in
theorem c_X6_rateThreat {G : GG} {M : MM} {p0 : Nat} {a1 : Int32} {r : Int32} {M' : MM} (h : f_X6_rateThreat M p0 a1 = some (r, M')) (hn : M.1 ≤ M'.1) : Ct G yX6_rateThreat cX6_rateThreat 2 (some .int) 1 [rf G p0, .int a1] M (some (.int r)) M' := by
  refine ct_of (by decide +kernel) (Nat.le_of_ble_eq_true rfl) (fun X hX O hK hi0 => ?_)
  subst hX
  obtain ⟨lim, hlim⟩ : ∃ z, z = M'.1 := ⟨_, rfl⟩
  rw [← hlim] at O hn
  replace O : OKX X cX6_rateThreat RX6 1 lim 2 := O
  have hi : True := trivial
  show WS X M 0 [(0, rf X.1 p0), (1, .int a1)] []
  replace hK : (fun (q : Int32 × MM) => RTX X (some .int) (some (.int q.1)) q.2) (r, M') := hK
  generalize (r, M') = o at h hK
  unfold f_X6_rateThreat at h
  obtain ⟨hg0, h⟩ := gd h
  refine s_aload_n (pc := 0) O dX6_rateThreat_0 rfl 0 rfl ?_
  refine s_dup (pc := 1) O dX6_rateThreat_1 rfl ?_
  obtain ⟨v1, e, h⟩ := bd h
  refine s_getJ (pc := 2) O kc6 (k := 6) rfl tw_255 e dX6_rateThreat_2 ?_
  refine s_ldc2 (pc := 5) O dX6_rateThreat_5 tw_611 ?_
  refine s_ladd (pc := 8) O dX6_rateThreat_8 ?_
  obtain ⟨M2, e, h⟩ := bd h
  refine s_putJ (pc := 9) O kc6 (k := 6) rfl rfl rfl tw_255 e dX6_rateThreat_9 ?_
  have hn : M2.1 ≤ lim := by rw [wfJ_n e]; exact hn
  refine s_aload_n (pc := 12) O dX6_rateThreat_12 rfl 0 rfl ?_
  refine s_iload_n (pc := 13) O dX6_rateThreat_13 rfl 1 rfl ?_
  obtain ⟨v3, e, h⟩ := bd h
  obtain ⟨hg, h⟩ := gd h
  refine s_callVi (pc := 14) O (As := [.int a1]) kc6 (c_X6_rateWord (G := X.1) e (Nat.le_of_eq hg.symm)) cy_X6_rateWord tw_583 tw_585 tw_12 (by decide) rfl (Nat.le_of_eq hg.symm) (by rw [hg]; exact hn) (r_X6_rateWord e).1 (r_X6_rateWord e).2 rfl (Nat.le_of_ble_eq_true rfl) dX6_rateThreat_14 ?_
  have hn : v3.2.1 ≤ lim := by rw [hg]; exact hn
  refine s_aload_n (pc := 17) O dX6_rateThreat_17 rfl 0 rfl ?_
  obtain ⟨v4, e, h⟩ := bd h
  refine s_getR (pc := 18) O kc6 (k := 2) rfl tw_251 e dX6_rateThreat_18 ?_
  refine s_iload_n (pc := 21) O dX6_rateThreat_21 rfl 1 rfl ?_
  obtain ⟨v5, e, h⟩ := bd h
  refine s_callVi (pc := 22) O (As := [.int a1]) kc0 (c_X0_timesOf (G := X.1) e) cy_X0_timesOf tw_612 tw_613 tw_614 (by decide) rfl (Nat.le_refl _) hn (r_X0_timesOf e).1 (r_X0_timesOf e).2 rfl (Nat.le_of_ble_eq_true rfl) dX6_rateThreat_22 ?_
  refine s_iadd (pc := 25) O dX6_rateThreat_25 ?_
  cases h
  exact s_iret (pc := 26) O hK dX6_rateThreat_26

def f_X6_rateVow (M : MM) (p0 : Nat) (a1 : Int32) : Option (Int32 × MM) :=
  if p0 < M.1 ∧ kd p0 = 6 then ((fJ M p0 6 6).bind fun v1 => (wfJ M p0 6 6 ((v1 + 10))).bind fun M2 => (f_X6_rateWord M2 p0 a1).bind fun v3 => if v3.2.1 = M2.1 then ((fR v3.2 p0 6 4).bind fun v4 => (fR v3.2 v4 4 0).bind fun v5 => (aR v3.2 v5 13 a1).bind fun v6 => (fI v3.2 v6 5 1).bind fun v7 => some (((v3.1 + v7), v3.2))) else none) else none
theorem r_X6_rateVow {M : MM} {p0 : Nat} {a1 : Int32} {o : Int32 × MM} (h : f_X6_rateVow M p0 a1 = some o) : p0 < M.1 ∧ kd p0 = 6 := by
  unfold f_X6_rateVow at h
  exact (gd h).1
theorem cy_X6_rateVow : CallY yX6_rateVow cX6_rateVow 2 (some .int) 1 := ⟨by decide +kernel, tw_590, tw_40, by decide⟩
set_option maxHeartbeats 4000000 in
set_option maxRecDepth 100000 in
theorem c_X6_rateVow {G : GG} {M : MM} {p0 : Nat} {a1 : Int32} {r : Int32} {M' : MM} (h : f_X6_rateVow M p0 a1 = some (r, M')) (hn : M.1 ≤ M'.1) : Ct G yX6_rateVow cX6_rateVow 2 (some .int) 1 [rf G p0, .int a1] M (some (.int r)) M' := by
  refine ct_of (by decide +kernel) (Nat.le_of_ble_eq_true rfl) (fun X hX O hK hi0 => ?_)
  subst hX
  obtain ⟨lim, hlim⟩ : ∃ z, z = M'.1 := ⟨_, rfl⟩
  rw [← hlim] at O hn
  replace O : OKX X cX6_rateVow RX6 1 lim 2 := O
  have hi : True := trivial
  show WS X M 0 [(0, rf X.1 p0), (1, .int a1)] []
  replace hK : (fun (q : Int32 × MM) => RTX X (some .int) (some (.int q.1)) q.2) (r, M') := hK
  generalize (r, M') = o at h hK
  unfold f_X6_rateVow at h
  obtain ⟨hg0, h⟩ := gd h
  refine s_aload_n (pc := 0) O dX6_rateVow_0 rfl 0 rfl ?_
  refine s_dup (pc := 1) O dX6_rateVow_1 rfl ?_
  obtain ⟨v1, e, h⟩ := bd h
  refine s_getJ (pc := 2) O kc6 (k := 6) rfl tw_255 e dX6_rateVow_2 ?_
  refine s_ldc2 (pc := 5) O dX6_rateVow_5 tw_591 ?_
  refine s_ladd (pc := 8) O dX6_rateVow_8 ?_
  obtain ⟨M2, e, h⟩ := bd h
  refine s_putJ (pc := 9) O kc6 (k := 6) rfl rfl rfl tw_255 e dX6_rateVow_9 ?_
  have hn : M2.1 ≤ lim := by rw [wfJ_n e]; exact hn
  refine s_aload_n (pc := 12) O dX6_rateVow_12 rfl 0 rfl ?_
  refine s_iload_n (pc := 13) O dX6_rateVow_13 rfl 1 rfl ?_
  obtain ⟨v3, e, h⟩ := bd h
  obtain ⟨hg, h⟩ := gd h
  refine s_callVi (pc := 14) O (As := [.int a1]) kc6 (c_X6_rateWord (G := X.1) e (Nat.le_of_eq hg.symm)) cy_X6_rateWord tw_583 tw_585 tw_12 (by decide) rfl (Nat.le_of_eq hg.symm) (by rw [hg]; exact hn) (r_X6_rateWord e).1 (r_X6_rateWord e).2 rfl (Nat.le_of_ble_eq_true rfl) dX6_rateVow_14 ?_
  have hn : v3.2.1 ≤ lim := by rw [hg]; exact hn
  refine s_aload_n (pc := 17) O dX6_rateVow_17 rfl 0 rfl ?_
  obtain ⟨v4, e, h⟩ := bd h
  refine s_getR (pc := 18) O kc6 (k := 4) rfl tw_253 e dX6_rateVow_18 ?_
  obtain ⟨v5, e, h⟩ := bd h
  refine s_getR (pc := 21) O kc4 (k := 0) rfl tw_230 e dX6_rateVow_21 ?_
  refine s_iload_n (pc := 24) O dX6_rateVow_24 rfl 1 rfl ?_
  obtain ⟨v6, e, h⟩ := bd h
  refine s_aldR13 (pc := 25) O e dX6_rateVow_25 ?_
  obtain ⟨v7, e, h⟩ := bd h
  refine s_getI (pc := 26) O kc5 (k := 1) rfl tw_191 e dX6_rateVow_26 ?_
  refine s_iadd (pc := 29) O dX6_rateVow_29 ?_
  cases h
  exact s_iret (pc := 30) O hK dX6_rateVow_30

def f_X6_ring (M : MM) (p0 : Nat) (a1 : Int32) : Option (Int32) :=
  if p0 < M.1 ∧ kd p0 = 6 then ((fR M p0 6 1).bind fun v1 => (f_X1_canBeSaid M v1 a1).bind fun v2 => if v2 = 0 then (some ((-1))) else ((fR M p0 6 1).bind fun v3 => (f_X1_stepsToRing M v3 a1).bind fun v4 => some v4)) else none
theorem r_X6_ring {M : MM} {p0 : Nat} {a1 : Int32} {o : Int32} (h : f_X6_ring M p0 a1 = some o) : p0 < M.1 ∧ kd p0 = 6 := by
  unfold f_X6_ring at h
  exact (gd h).1
theorem cy_X6_ring : CallY yX6_ring cX6_ring 2 (some .int) 1 := ⟨by decide +kernel, tw_544, tw_40, by decide⟩
set_option maxHeartbeats 4000000 in
set_option maxRecDepth 100000 in
theorem c_X6_ring {G : GG} {M : MM} {p0 : Nat} {a1 : Int32} {r : Int32} (h : f_X6_ring M p0 a1 = some r) : Ct G yX6_ring cX6_ring 2 (some .int) 1 [rf G p0, .int a1] M (some (.int r)) M := by
  refine ct_of (by decide +kernel) (Nat.le_of_ble_eq_true rfl) (fun X hX O hK hi0 => ?_)
  subst hX
  obtain ⟨lim, hlim⟩ : ∃ z, z = M.1 := ⟨_, rfl⟩
  rw [← hlim] at O
  replace O : OKX X cX6_ring RX6 1 lim 2 := O
  have hi : True := trivial
  have hn : M.1 ≤ lim := Nat.le_of_eq hlim.symm
  show WS X M 0 [(0, rf X.1 p0), (1, .int a1)] []
  unfold f_X6_ring at h
  obtain ⟨hg0, h⟩ := gd h
  refine s_aload_n (pc := 0) O dX6_ring_0 rfl 0 rfl ?_
  obtain ⟨v1, e, h⟩ := bd h
  refine s_getR (pc := 1) O kc6 (k := 1) rfl tw_250 e dX6_ring_1 ?_
  refine s_iload_n (pc := 4) O dX6_ring_4 rfl 1 rfl ?_
  obtain ⟨v2, e, h⟩ := bd h
  refine s_callVi (pc := 5) O (As := [.int a1]) kc1 (c_X1_canBeSaid (G := X.1) e) cy_X1_canBeSaid tw_431 tw_432 tw_433 (by decide) rfl (Nat.le_refl _) hn (r_X1_canBeSaid e).1 (r_X1_canBeSaid e).2 rfl (Nat.le_of_ble_eq_true rfl) dX6_ring_5 ?_
  refine s_if_ne (pc := 8) O (tgt := 13) dX6_ring_8 (by decide) (fun c => ?_) (fun c => ?_)
  · have h := ifn c h
    refine s_aload_n (pc := 13) O dX6_ring_13 rfl 0 rfl ?_
    obtain ⟨v3, e, h⟩ := bd h
    refine s_getR (pc := 14) O kc6 (k := 1) rfl tw_250 e dX6_ring_14 ?_
    refine s_iload_n (pc := 17) O dX6_ring_17 rfl 1 rfl ?_
    obtain ⟨v4, e, h⟩ := bd h
    refine s_callVi (pc := 18) O (As := [.int a1]) kc1 (c_X1_stepsToRing (G := X.1) e) cy_X1_stepsToRing tw_545 tw_546 tw_547 (by decide) rfl (Nat.le_refl _) hn (r_X1_stepsToRing e).1 (r_X1_stepsToRing e).2 rfl (Nat.le_of_ble_eq_true rfl) dX6_ring_18 ?_
    cases h
    exact s_iret (pc := 21) O hK dX6_ring_21
  · have h := ifp c h
    refine s_iconst (pc := 11) O (v := (-1)) dX6_ring_11 (by decide) ?_
    cases h
    exact s_iret (pc := 12) O hK dX6_ring_12

def f_X6_shape (M : MM) (p0 : Nat) (a1 : Int32) (a2 : Int32) : Option (Int32) :=
  if p0 < M.1 ∧ kd p0 = 6 then ((f_X6_isShape M p0 a1).bind fun v1 => if v1 = 0 then (some ((-1))) else (if (0 : Int32) ≤ a2 then ((fR M p0 6 4).bind fun v2 => (fR M v2 4 1).bind fun v3 => (aR M v3 12 a1).bind fun v4 => (fI M v4 2 1).bind fun v5 => if v5 ≤ a2 then (some ((-5))) else ((fR M v4 2 0).bind fun v6 => (aI M v6 a2).bind fun v7 => some v7)) else (some ((-1))))) else none
theorem r_X6_shape {M : MM} {p0 : Nat} {a1 : Int32} {a2 : Int32} {o : Int32} (h : f_X6_shape M p0 a1 a2 = some o) : p0 < M.1 ∧ kd p0 = 6 := by
  unfold f_X6_shape at h
  exact (gd h).1
theorem cy_X6_shape : CallY yX6_shape cX6_shape 4 (some .int) 2 := ⟨by decide +kernel, tw_422, tw_40, by decide⟩
set_option maxHeartbeats 4000000 in
set_option maxRecDepth 100000 in
theorem c_X6_shape {G : GG} {M : MM} {p0 : Nat} {a1 : Int32} {a2 : Int32} {r : Int32} (h : f_X6_shape M p0 a1 a2 = some r) : Ct G yX6_shape cX6_shape 4 (some .int) 1 [rf G p0, .int a1, .int a2] M (some (.int r)) M := by
  refine ct_of (by decide +kernel) (Nat.le_of_ble_eq_true rfl) (fun X hX O hK hi0 => ?_)
  subst hX
  obtain ⟨lim, hlim⟩ : ∃ z, z = M.1 := ⟨_, rfl⟩
  rw [← hlim] at O
  replace O : OKX X cX6_shape RX6 1 lim 4 := O
  have hi : True := trivial
  have hn : M.1 ≤ lim := Nat.le_of_eq hlim.symm
  show WS X M 0 [(0, rf X.1 p0), (1, .int a1), (2, .int a2)] []
  unfold f_X6_shape at h
  obtain ⟨hg0, h⟩ := gd h
  refine s_aload_n (pc := 0) O dX6_shape_0 rfl 0 rfl ?_
  refine s_iload_n (pc := 1) O dX6_shape_1 rfl 1 rfl ?_
  obtain ⟨v1, e, h⟩ := bd h
  refine s_callVi (pc := 2) O (As := [.int a1]) kc6 (c_X6_isShape (G := X.1) e) cy_X6_isShape tw_423 tw_425 tw_9 (by decide) rfl (Nat.le_refl _) hn (r_X6_isShape e).1 (r_X6_isShape e).2 rfl (Nat.le_of_ble_eq_true rfl) dX6_shape_2 ?_
  refine s_if_eq (pc := 5) O (tgt := 12) dX6_shape_5 (by decide) (fun c => ?_) (fun c => ?_)
  · have h := ifp c h
    refine s_iconst (pc := 12) O (v := (-1)) dX6_shape_12 (by decide) ?_
    cases h
    exact s_iret (pc := 13) O hK dX6_shape_13
  · have h := ifn c h
    refine s_iload_n (pc := 8) O dX6_shape_8 rfl 2 rfl ?_
    refine s_if_ge (pc := 9) O (tgt := 14) dX6_shape_9 (by decide) (fun c => ?_) (fun c => ?_)
    · have h := ifp c h
      refine s_aload_n (pc := 14) O dX6_shape_14 rfl 0 rfl ?_
      obtain ⟨v2, e, h⟩ := bd h
      refine s_getR (pc := 15) O kc6 (k := 4) rfl tw_253 e dX6_shape_15 ?_
      obtain ⟨v3, e, h⟩ := bd h
      refine s_getR (pc := 18) O kc4 (k := 1) rfl tw_233 e dX6_shape_18 ?_
      refine s_iload_n (pc := 21) O dX6_shape_21 rfl 1 rfl ?_
      obtain ⟨v4, e, h⟩ := bd h
      refine s_aldR12 (pc := 22) O e dX6_shape_22 ?_
      refine s_astore_n (pc := 23) O (loc' := [(3, rf X.1 v4), (0, rf X.1 p0), (1, .int a1), (2, .int a2)]) dX6_shape_23 rfl (by decide) rfl ?_
      refine s_iload_n (pc := 24) O dX6_shape_24 rfl 3 rfl ?_
      refine s_aload_n (pc := 25) O dX6_shape_25 rfl 0 rfl ?_
      obtain ⟨v5, e, h⟩ := bd h
      refine s_getI (pc := 26) O kc2 (k := 1) rfl tw_222 e dX6_shape_26 ?_
      refine s_icmp_ge (pc := 29) O (tgt := 41) dX6_shape_29 (by decide) (fun c => ?_) (fun c => ?_)
      · have h := ifp c h
        refine s_bipush (pc := 41) O (v := (-5)) dX6_shape_41 (by decide) ?_
        cases h
        exact s_iret (pc := 43) O hK dX6_shape_43
      · have h := ifn c h
        refine s_aload_n (pc := 32) O dX6_shape_32 rfl 0 rfl ?_
        obtain ⟨v6, e, h⟩ := bd h
        refine s_getR (pc := 33) O kc2 (k := 0) rfl tw_219 e dX6_shape_33 ?_
        refine s_iload_n (pc := 36) O dX6_shape_36 rfl 3 rfl ?_
        obtain ⟨v7, e, h⟩ := bd h
        refine s_aldI (pc := 37) O e dX6_shape_37 ?_
        refine s_goto (pc := 38) O (tgt := 43) dX6_shape_38 (by decide) ?_
        cases h
        exact s_iret (pc := 43) O hK dX6_shape_43
    · have h := ifn c h
      refine s_iconst (pc := 12) O (v := (-1)) dX6_shape_12 (by decide) ?_
      cases h
      exact s_iret (pc := 13) O hK dX6_shape_13

def f_X6_spell (M : MM) (p0 : Nat) (a1 : Int32) (a2 : Int32) : Option (Int32) :=
  if p0 < M.1 ∧ kd p0 = 6 then ((f_X6_isWord M p0 a1).bind fun v1 => if v1 = 0 then (some ((-1))) else (if (0 : Int32) ≤ a2 then ((fR M p0 6 4).bind fun v2 => (fR M v2 4 0).bind fun v3 => (aR M v3 13 a1).bind fun v4 => (fI M v4 5 1).bind fun v5 => if v5 ≤ a2 then (some ((-5))) else ((fR M v4 5 0).bind fun v6 => (aI M v6 a2).bind fun v7 => some v7)) else (some ((-1))))) else none
theorem r_X6_spell {M : MM} {p0 : Nat} {a1 : Int32} {a2 : Int32} {o : Int32} (h : f_X6_spell M p0 a1 a2 = some o) : p0 < M.1 ∧ kd p0 = 6 := by
  unfold f_X6_spell at h
  exact (gd h).1
theorem cy_X6_spell : CallY yX6_spell cX6_spell 4 (some .int) 2 := ⟨by decide +kernel, tw_418, tw_40, by decide⟩
set_option maxHeartbeats 4000000 in
set_option maxRecDepth 100000 in
theorem c_X6_spell {G : GG} {M : MM} {p0 : Nat} {a1 : Int32} {a2 : Int32} {r : Int32} (h : f_X6_spell M p0 a1 a2 = some r) : Ct G yX6_spell cX6_spell 4 (some .int) 1 [rf G p0, .int a1, .int a2] M (some (.int r)) M := by
  refine ct_of (by decide +kernel) (Nat.le_of_ble_eq_true rfl) (fun X hX O hK hi0 => ?_)
  subst hX
  obtain ⟨lim, hlim⟩ : ∃ z, z = M.1 := ⟨_, rfl⟩
  rw [← hlim] at O
  replace O : OKX X cX6_spell RX6 1 lim 4 := O
  have hi : True := trivial
  have hn : M.1 ≤ lim := Nat.le_of_eq hlim.symm
  show WS X M 0 [(0, rf X.1 p0), (1, .int a1), (2, .int a2)] []
  unfold f_X6_spell at h
  obtain ⟨hg0, h⟩ := gd h
  refine s_aload_n (pc := 0) O dX6_spell_0 rfl 0 rfl ?_
  refine s_iload_n (pc := 1) O dX6_spell_1 rfl 1 rfl ?_
  obtain ⟨v1, e, h⟩ := bd h
  refine s_callVi (pc := 2) O (As := [.int a1]) kc6 (c_X6_isWord (G := X.1) e) cy_X6_isWord tw_411 tw_413 tw_8 (by decide) rfl (Nat.le_refl _) hn (r_X6_isWord e).1 (r_X6_isWord e).2 rfl (Nat.le_of_ble_eq_true rfl) dX6_spell_2 ?_
  refine s_if_eq (pc := 5) O (tgt := 12) dX6_spell_5 (by decide) (fun c => ?_) (fun c => ?_)
  · have h := ifp c h
    refine s_iconst (pc := 12) O (v := (-1)) dX6_spell_12 (by decide) ?_
    cases h
    exact s_iret (pc := 13) O hK dX6_spell_13
  · have h := ifn c h
    refine s_iload_n (pc := 8) O dX6_spell_8 rfl 2 rfl ?_
    refine s_if_ge (pc := 9) O (tgt := 14) dX6_spell_9 (by decide) (fun c => ?_) (fun c => ?_)
    · have h := ifp c h
      refine s_aload_n (pc := 14) O dX6_spell_14 rfl 0 rfl ?_
      obtain ⟨v2, e, h⟩ := bd h
      refine s_getR (pc := 15) O kc6 (k := 4) rfl tw_253 e dX6_spell_15 ?_
      obtain ⟨v3, e, h⟩ := bd h
      refine s_getR (pc := 18) O kc4 (k := 0) rfl tw_230 e dX6_spell_18 ?_
      refine s_iload_n (pc := 21) O dX6_spell_21 rfl 1 rfl ?_
      obtain ⟨v4, e, h⟩ := bd h
      refine s_aldR13 (pc := 22) O e dX6_spell_22 ?_
      refine s_astore_n (pc := 23) O (loc' := [(3, rf X.1 v4), (0, rf X.1 p0), (1, .int a1), (2, .int a2)]) dX6_spell_23 rfl (by decide) rfl ?_
      refine s_iload_n (pc := 24) O dX6_spell_24 rfl 3 rfl ?_
      refine s_aload_n (pc := 25) O dX6_spell_25 rfl 0 rfl ?_
      obtain ⟨v5, e, h⟩ := bd h
      refine s_getI (pc := 26) O kc5 (k := 1) rfl tw_191 e dX6_spell_26 ?_
      refine s_icmp_ge (pc := 29) O (tgt := 41) dX6_spell_29 (by decide) (fun c => ?_) (fun c => ?_)
      · have h := ifp c h
        refine s_bipush (pc := 41) O (v := (-5)) dX6_spell_41 (by decide) ?_
        cases h
        exact s_iret (pc := 43) O hK dX6_spell_43
      · have h := ifn c h
        refine s_aload_n (pc := 32) O dX6_spell_32 rfl 0 rfl ?_
        obtain ⟨v6, e, h⟩ := bd h
        refine s_getR (pc := 33) O kc5 (k := 0) rfl tw_188 e dX6_spell_33 ?_
        refine s_iload_n (pc := 36) O dX6_spell_36 rfl 3 rfl ?_
        obtain ⟨v7, e, h⟩ := bd h
        refine s_aldI (pc := 37) O e dX6_spell_37 ?_
        refine s_goto (pc := 38) O (tgt := 43) dX6_spell_38 (by decide) ?_
        cases h
        exact s_iret (pc := 43) O hK dX6_spell_43
    · have h := ifn c h
      refine s_iconst (pc := 12) O (v := (-1)) dX6_spell_12 (by decide) ?_
      cases h
      exact s_iret (pc := 13) O hK dX6_spell_13

def z_X6_type_36 (M : MM) (p0 : Nat) (b1 : Int64) (a4 : Int32) : Option ((Int32 × MM) ⊕ (Int32 × MM)) :=
  if a4 < 0 then (((fR M p0 6 0).bind fun v1 => (fI M v1 3 1).bind fun v2 => some ((v2, M))).map .inl) else ((fR M p0 6 0).bind fun v3 => (f_X3_add M v3 (((((b1 : Int64).toUInt64 >>> (((8 * a4) : Int32).toInt64.toUInt64 &&& Int64.toUInt64 63)).toInt64 : Int64).toInt32 &&& 255))).bind fun M4 => if M4.1 = M.1 then (some ((.inr ((a4 + (-1)), M4)))) else none)
set_option maxHeartbeats 4000000 in
set_option maxRecDepth 100000 in
theorem b_X6_type_36 {X : CT} {lim : Nat} {M : MM} {p0 : Nat} {b1 : Int64} {a4 : Int32} (O : OKX X cX6_type RX6 1 lim 5) (hi : True) (hn : M.1 ≤ lim) {o : (Int32 × MM) ⊕ (Int32 × MM)} (h : z_X6_type_36 M p0 b1 a4 = some o) (hK : (KI (fun (q : Int32 × MM) => RTX X (some .int) (some (.int q.1)) q.2) (fun (t : Int32 × MM) => t.2.1 ≤ lim → WS X t.2 36 [(0, rf X.1 p0), (1, .long b1), (4, .int t.1)] [])) o) : WS X M 36 [(0, rf X.1 p0), (1, .long b1), (4, .int a4)] [] := by
  unfold z_X6_type_36 at h
  refine s_iload (pc := 36) O dX6_type_36 2 rfl ?_
  refine s_if_lt (pc := 38) O (tgt := 66) dX6_type_38 (by decide) (fun c => ?_) (fun c => ?_)
  · have h := ifp c h
    obtain ⟨q0, hq0, ho0⟩ := mpi h; subst ho0; replace h := hq0
    refine s_aload_n (pc := 66) O dX6_type_66 rfl 0 rfl ?_
    obtain ⟨v1, e, h⟩ := bd h
    refine s_getR (pc := 67) O kc6 (k := 0) rfl tw_249 e dX6_type_67 ?_
    obtain ⟨v2, e, h⟩ := bd h
    refine s_getI (pc := 70) O kc3 (k := 1) rfl tw_71 e dX6_type_70 ?_
    cases h
    exact s_iret (pc := 73) O hK dX6_type_73
  · have h := ifn c h
    refine s_aload_n (pc := 41) O dX6_type_41 rfl 0 rfl ?_
    obtain ⟨v3, e, h⟩ := bd h
    refine s_getR (pc := 42) O kc6 (k := 0) rfl tw_249 e dX6_type_42 ?_
    refine s_lload_n (pc := 45) O dX6_type_45 rfl 1 rfl ?_
    refine s_bipush (pc := 46) O (v := 8) dX6_type_46 (by decide) ?_
    refine s_iload (pc := 48) O dX6_type_48 2 rfl ?_
    refine s_imul (pc := 50) O dX6_type_50 ?_
    refine s_lushr (pc := 51) O dX6_type_51 ?_
    refine s_l2i (pc := 52) O dX6_type_52 ?_
    refine s_sipush (pc := 53) O (v := 255) dX6_type_53 (by decide) ?_
    refine s_iand (pc := 56) O dX6_type_56 ?_
    obtain ⟨M4, e, h⟩ := bd h
    obtain ⟨hg, h⟩ := gd h
    refine s_callVv (pc := 57) O (As := [.int ((((b1 : Int64).toUInt64 >>> (((8 * a4) : Int32).toInt64.toUInt64 &&& Int64.toUInt64 63)).toInt64 : Int64).toInt32 &&& 255)]) kc3 (c_X3_add (G := X.1) e (Nat.le_of_eq hg.symm)) cy_X3_add tw_275 tw_276 tw_277 (by decide) rfl (Nat.le_of_eq hg.symm) (by rw [hg]; exact hn) (r_X3_add e).1 (r_X3_add e).2 rfl (Nat.le_of_ble_eq_true rfl) dX6_type_57 ?_
    have hn : M4.1 ≤ lim := by rw [hg]; exact hn
    refine s_iinc (pc := 60) O (v := (a4 + (-1))) (loc' := [(4, .int (a4 + (-1))), (0, rf X.1 p0), (1, .long b1)]) dX6_type_60 2 rfl rfl (by decide) rfl ?_
    refine s_goto (pc := 63) O (tgt := 36) dX6_type_63 (by decide) ?_
    cases h
    exact s_sub (pc := 36) O [1, 2, 0] rfl (hK hn)
set_option maxHeartbeats 4000000 in
set_option maxRecDepth 100000 in
theorem l_X6_type_36 {X : CT} {lim : Nat} {M : MM} {p0 : Nat} {b1 : Int64} {a4 : Int32} (O : OKX X cX6_type RX6 1 lim 5) (hi : True) (hn : M.1 ≤ lim) {o : Int32 × MM} {n : Nat} (h : lp (fun t => z_X6_type_36 t.2 p0 b1 t.1) n (a4, M) = some o) (hK : (fun (q : Int32 × MM) => RTX X (some .int) (some (.int q.1)) q.2) o) : WS X M 36 [(0, rf X.1 p0), (1, .long b1), (4, .int a4)] [] := by
  refine lp_ind (P := fun (o : Int32 × MM) (t : Int32 × MM) => t.2.1 ≤ lim → (fun (q : Int32 × MM) => RTX X (some .int) (some (.int q.1)) q.2) o → WS X t.2 36 [(0, rf X.1 p0), (1, .long b1), (4, .int t.1)] []) (fun t o hs hn hK => ?_) n (a4, M) o h hn hK
  rcases hs with h | ⟨u, h, hu⟩
  · exact b_X6_type_36 O hi hn h hK
  · exact b_X6_type_36 O hi hn h (show KI _ _ (.inr u) from fun hn => hu hn hK)
def f_X6_type (M : MM) (p0 : Nat) (b1 : Int64) (a3 : Int32) : Option (Int32 × MM) :=
  if p0 < M.1 ∧ kd p0 = 6 then (if a3 < 1 then (some (((-1), M))) else (if a3 ≤ 8 then ((fR M p0 6 0).bind fun v1 => (fI M v1 3 1).bind fun v2 => if (v2 + a3) ≤ 200 then (lp (fun t => z_X6_type_36 t.2 p0 b1 t.1) FU ((a3 - 1), M)) else (some (((-3), M)))) else (some (((-1), M))))) else none
theorem r_X6_type {M : MM} {p0 : Nat} {b1 : Int64} {a3 : Int32} {o : Int32 × MM} (h : f_X6_type M p0 b1 a3 = some o) : p0 < M.1 ∧ kd p0 = 6 := by
  unfold f_X6_type at h
  exact (gd h).1
theorem cy_X6_type : CallY yX6_type cX6_type 5 (some .int) 2 := ⟨by decide +kernel, tw_274, tw_40, by decide⟩
set_option maxHeartbeats 4000000 in
set_option maxRecDepth 100000 in
theorem c_X6_type {G : GG} {M : MM} {p0 : Nat} {b1 : Int64} {a3 : Int32} {r : Int32} {M' : MM} (h : f_X6_type M p0 b1 a3 = some (r, M')) (hn : M.1 ≤ M'.1) : Ct G yX6_type cX6_type 5 (some .int) 1 [rf G p0, .long b1, .int a3] M (some (.int r)) M' := by
  refine ct_of (by decide +kernel) (Nat.le_of_ble_eq_true rfl) (fun X hX O hK hi0 => ?_)
  subst hX
  obtain ⟨lim, hlim⟩ : ∃ z, z = M'.1 := ⟨_, rfl⟩
  rw [← hlim] at O hn
  replace O : OKX X cX6_type RX6 1 lim 5 := O
  have hi : True := trivial
  show WS X M 0 [(0, rf X.1 p0), (1, .long b1), (3, .int a3)] []
  replace hK : (fun (q : Int32 × MM) => RTX X (some .int) (some (.int q.1)) q.2) (r, M') := hK
  generalize (r, M') = o at h hK
  unfold f_X6_type at h
  obtain ⟨hg0, h⟩ := gd h
  refine s_iload_n (pc := 0) O dX6_type_0 rfl 2 rfl ?_
  refine s_iconst (pc := 1) O (v := 1) dX6_type_1 (by decide) ?_
  refine s_icmp_lt (pc := 2) O (tgt := 11) dX6_type_2 (by decide) (fun c => ?_) (fun c => ?_)
  · have h := ifp c h
    refine s_iconst (pc := 11) O (v := (-1)) dX6_type_11 (by decide) ?_
    cases h
    exact s_iret (pc := 12) O hK dX6_type_12
  · have h := ifn c h
    refine s_iload_n (pc := 5) O dX6_type_5 rfl 2 rfl ?_
    refine s_bipush (pc := 6) O (v := 8) dX6_type_6 (by decide) ?_
    refine s_icmp_le (pc := 8) O (tgt := 13) dX6_type_8 (by decide) (fun c => ?_) (fun c => ?_)
    · have h := ifp c h
      refine s_aload_n (pc := 13) O dX6_type_13 rfl 0 rfl ?_
      obtain ⟨v1, e, h⟩ := bd h
      refine s_getR (pc := 14) O kc6 (k := 0) rfl tw_249 e dX6_type_14 ?_
      obtain ⟨v2, e, h⟩ := bd h
      refine s_getI (pc := 17) O kc3 (k := 1) rfl tw_71 e dX6_type_17 ?_
      refine s_iload_n (pc := 20) O dX6_type_20 rfl 2 rfl ?_
      refine s_iadd (pc := 21) O dX6_type_21 ?_
      refine s_sipush (pc := 22) O (v := 200) dX6_type_22 (by decide) ?_
      refine s_icmp_le (pc := 25) O (tgt := 31) dX6_type_25 (by decide) (fun c => ?_) (fun c => ?_)
      · have h := ifp c h
        refine s_iload_n (pc := 31) O dX6_type_31 rfl 2 rfl ?_
        refine s_iconst (pc := 32) O (v := 1) dX6_type_32 (by decide) ?_
        refine s_isub (pc := 33) O dX6_type_33 ?_
        refine s_istore (pc := 34) O (loc' := [(4, .int (a3 - 1)), (0, rf X.1 p0), (1, .long b1), (3, .int a3)]) dX6_type_34 (by decide) rfl ?_
        exact s_sub (pc := 36) O [1, 2, 0] rfl (l_X6_type_36 O hi hn h hK)
      · have h := ifn c h
        refine s_bipush (pc := 28) O (v := (-3)) dX6_type_28 (by decide) ?_
        cases h
        exact s_iret (pc := 30) O hK dX6_type_30
    · have h := ifn c h
      refine s_iconst (pc := 11) O (v := (-1)) dX6_type_11 (by decide) ?_
      cases h
      exact s_iret (pc := 12) O hK dX6_type_12

def f_X6_word (M : MM) (p0 : Nat) (a1 : Int32) (a2 : Int32) : Option (Int32) :=
  if p0 < M.1 ∧ kd p0 = 6 then ((f_X6_isWord M p0 a1).bind fun v1 => if v1 = 0 then (some ((-1))) else ((fR M p0 6 4).bind fun v2 => (fR M v2 4 0).bind fun v3 => (aR M v3 13 a1).bind fun v4 => if a2 = 0 then ((fI M v4 5 1).bind fun v5 => some v5) else (if a2 = 1 then ((fI M v4 5 2).bind fun v6 => some v6) else (if a2 = 2 then ((fI M v4 5 3).bind fun v7 => some v7) else (if a2 = 3 then ((fI M v4 5 4).bind fun v8 => some v8) else (some ((-1)))))))) else none
theorem r_X6_word {M : MM} {p0 : Nat} {a1 : Int32} {a2 : Int32} {o : Int32} (h : f_X6_word M p0 a1 a2 = some o) : p0 < M.1 ∧ kd p0 = 6 := by
  unfold f_X6_word at h
  exact (gd h).1
theorem cy_X6_word : CallY yX6_word cX6_word 4 (some .int) 2 := ⟨by decide +kernel, tw_410, tw_40, by decide⟩
set_option maxHeartbeats 4000000 in
set_option maxRecDepth 100000 in
theorem c_X6_word {G : GG} {M : MM} {p0 : Nat} {a1 : Int32} {a2 : Int32} {r : Int32} (h : f_X6_word M p0 a1 a2 = some r) : Ct G yX6_word cX6_word 4 (some .int) 1 [rf G p0, .int a1, .int a2] M (some (.int r)) M := by
  refine ct_of (by decide +kernel) (Nat.le_of_ble_eq_true rfl) (fun X hX O hK hi0 => ?_)
  subst hX
  obtain ⟨lim, hlim⟩ : ∃ z, z = M.1 := ⟨_, rfl⟩
  rw [← hlim] at O
  replace O : OKX X cX6_word RX6 1 lim 4 := O
  have hi : True := trivial
  have hn : M.1 ≤ lim := Nat.le_of_eq hlim.symm
  show WS X M 0 [(0, rf X.1 p0), (1, .int a1), (2, .int a2)] []
  unfold f_X6_word at h
  obtain ⟨hg0, h⟩ := gd h
  refine s_aload_n (pc := 0) O dX6_word_0 rfl 0 rfl ?_
  refine s_iload_n (pc := 1) O dX6_word_1 rfl 1 rfl ?_
  obtain ⟨v1, e, h⟩ := bd h
  refine s_callVi (pc := 2) O (As := [.int a1]) kc6 (c_X6_isWord (G := X.1) e) cy_X6_isWord tw_411 tw_413 tw_8 (by decide) rfl (Nat.le_refl _) hn (r_X6_isWord e).1 (r_X6_isWord e).2 rfl (Nat.le_of_ble_eq_true rfl) dX6_word_2 ?_
  refine s_if_ne (pc := 5) O (tgt := 10) dX6_word_5 (by decide) (fun c => ?_) (fun c => ?_)
  · have h := ifn c h
    refine s_aload_n (pc := 10) O dX6_word_10 rfl 0 rfl ?_
    obtain ⟨v2, e, h⟩ := bd h
    refine s_getR (pc := 11) O kc6 (k := 4) rfl tw_253 e dX6_word_11 ?_
    obtain ⟨v3, e, h⟩ := bd h
    refine s_getR (pc := 14) O kc4 (k := 0) rfl tw_230 e dX6_word_14 ?_
    refine s_iload_n (pc := 17) O dX6_word_17 rfl 1 rfl ?_
    obtain ⟨v4, e, h⟩ := bd h
    refine s_aldR13 (pc := 18) O e dX6_word_18 ?_
    refine s_astore_n (pc := 19) O (loc' := [(3, rf X.1 v4), (0, rf X.1 p0), (1, .int a1), (2, .int a2)]) dX6_word_19 rfl (by decide) rfl ?_
    refine s_iload_n (pc := 20) O dX6_word_20 rfl 3 rfl ?_
    obtain ⟨x, hx⟩ : ∃ y : Int32, y = a2 := ⟨_, rfl⟩
    rw [← hx] at h ⊢
    by_cases c0 : x = 0
    · have h := ifp c0 h
      subst c0
      refine s_tabIn (pc := 21) O (tgt := 52) dX6_word_21 (by decide) (by decide) rfl (by decide) ?_
      refine s_aload_n (pc := 52) O dX6_word_52 rfl 0 rfl ?_
      obtain ⟨v5, e, h⟩ := bd h
      refine s_getI (pc := 53) O kc5 (k := 1) rfl tw_191 e dX6_word_53 ?_
      cases h
      exact s_iret (pc := 56) O hK dX6_word_56
    have h := ifn c0 h
    by_cases c1 : x = 1
    · have h := ifp c1 h
      subst c1
      refine s_tabIn (pc := 21) O (tgt := 57) dX6_word_21 (by decide) (by decide) rfl (by decide) ?_
      refine s_aload_n (pc := 57) O dX6_word_57 rfl 0 rfl ?_
      obtain ⟨v6, e, h⟩ := bd h
      refine s_getI (pc := 58) O kc5 (k := 2) rfl tw_194 e dX6_word_58 ?_
      cases h
      exact s_iret (pc := 61) O hK dX6_word_61
    have h := ifn c1 h
    by_cases c2 : x = 2
    · have h := ifp c2 h
      subst c2
      refine s_tabIn (pc := 21) O (tgt := 62) dX6_word_21 (by decide) (by decide) rfl (by decide) ?_
      refine s_aload_n (pc := 62) O dX6_word_62 rfl 0 rfl ?_
      obtain ⟨v7, e, h⟩ := bd h
      refine s_getI (pc := 63) O kc5 (k := 3) rfl tw_197 e dX6_word_63 ?_
      cases h
      exact s_iret (pc := 66) O hK dX6_word_66
    have h := ifn c2 h
    by_cases c3 : x = 3
    · have h := ifp c3 h
      subst c3
      refine s_tabIn (pc := 21) O (tgt := 67) dX6_word_21 (by decide) (by decide) rfl (by decide) ?_
      refine s_aload_n (pc := 67) O dX6_word_67 rfl 0 rfl ?_
      obtain ⟨v8, e, h⟩ := bd h
      refine s_getI (pc := 68) O kc5 (k := 4) rfl tw_200 e dX6_word_68 ?_
      cases h
      exact s_iret (pc := 71) O hK dX6_word_71
    have h := ifn c3 h
    refine s_tabOut (pc := 21) O (tgt := 72) dX6_word_21 (by have := i32_neK (n := 0) (by decide) c0; have := i32_neK (n := 1) (by decide) c1; have := i32_neK (n := 2) (by decide) c2; have := i32_neK (n := 3) (by decide) c3; omega) (by decide) ?_
    refine s_iconst (pc := 72) O (v := (-1)) dX6_word_72 (by decide) ?_
    cases h
    exact s_iret (pc := 73) O hK dX6_word_73
  · have h := ifp c h
    refine s_iconst (pc := 8) O (v := (-1)) dX6_word_8 (by decide) ?_
    cases h
    exact s_iret (pc := 9) O hK dX6_word_9

def j_X6_write_54 (M : MM) (p0 : Nat) (a1 : Int32) : Option (Int32 × MM) :=
  (fR M p0 6 2).bind fun v1 => (fI M v1 0 1).bind fun v2 => if v2 < 12 then ((fR M p0 6 2).bind fun v3 => (fR M v3 0 0).bind fun v4 => (fR M p0 6 2).bind fun v5 => (fI M v5 0 1).bind fun v6 => (waI M v4 v6 a1).bind fun M7 => (fR M7 p0 6 2).bind fun v8 => (fI M7 v8 0 1).bind fun v9 => (wfI M7 v8 0 1 ((v9 + 1))).bind fun M10 => (fR M10 p0 6 2).bind fun v11 => (fI M10 v11 0 1).bind fun v12 => some ((v12, M10))) else (some (((-3), M)))
set_option maxHeartbeats 4000000 in
set_option maxRecDepth 100000 in
theorem g_X6_write_54 {X : CT} {lim : Nat} {M : MM} {p0 : Nat} {a1 : Int32} (O : OKX X cX6_write RX6 1 lim 2) (hi : True) (hn : M.1 ≤ lim) {o : Int32 × MM} (h : j_X6_write_54 M p0 a1 = some o) (hK : (fun (q : Int32 × MM) => RTX X (some .int) (some (.int q.1)) q.2) o) : WS X M 54 [(0, rf X.1 p0), (1, .int a1)] [] := by
  unfold j_X6_write_54 at h
  refine s_aload_n (pc := 54) O dX6_write_54 rfl 0 rfl ?_
  obtain ⟨v1, e, h⟩ := bd h
  refine s_getR (pc := 55) O kc6 (k := 2) rfl tw_251 e dX6_write_55 ?_
  obtain ⟨v2, e, h⟩ := bd h
  refine s_getI (pc := 58) O kc0 (k := 1) rfl tw_160 e dX6_write_58 ?_
  refine s_bipush (pc := 61) O (v := 12) dX6_write_61 (by decide) ?_
  refine s_icmp_lt (pc := 63) O (tgt := 69) dX6_write_63 (by decide) (fun c => ?_) (fun c => ?_)
  · have h := ifp c h
    refine s_aload_n (pc := 69) O dX6_write_69 rfl 0 rfl ?_
    obtain ⟨v3, e, h⟩ := bd h
    refine s_getR (pc := 70) O kc6 (k := 2) rfl tw_251 e dX6_write_70 ?_
    obtain ⟨v4, e, h⟩ := bd h
    refine s_getR (pc := 73) O kc0 (k := 0) rfl tw_158 e dX6_write_73 ?_
    refine s_aload_n (pc := 76) O dX6_write_76 rfl 0 rfl ?_
    obtain ⟨v5, e, h⟩ := bd h
    refine s_getR (pc := 77) O kc6 (k := 2) rfl tw_251 e dX6_write_77 ?_
    obtain ⟨v6, e, h⟩ := bd h
    refine s_getI (pc := 80) O kc0 (k := 1) rfl tw_160 e dX6_write_80 ?_
    refine s_iload_n (pc := 83) O dX6_write_83 rfl 1 rfl ?_
    obtain ⟨M7, e, h⟩ := bd h
    refine s_astI (pc := 84) O e dX6_write_84 ?_
    have hn : M7.1 ≤ lim := by rw [waI_n e]; exact hn
    refine s_aload_n (pc := 85) O dX6_write_85 rfl 0 rfl ?_
    obtain ⟨v8, e, h⟩ := bd h
    refine s_getR (pc := 86) O kc6 (k := 2) rfl tw_251 e dX6_write_86 ?_
    refine s_dup (pc := 89) O dX6_write_89 rfl ?_
    obtain ⟨v9, e, h⟩ := bd h
    refine s_getI (pc := 90) O kc0 (k := 1) rfl tw_160 e dX6_write_90 ?_
    refine s_iconst (pc := 93) O (v := 1) dX6_write_93 (by decide) ?_
    refine s_iadd (pc := 94) O dX6_write_94 ?_
    obtain ⟨M10, e, h⟩ := bd h
    refine s_putI (pc := 95) O kc0 (k := 1) rfl rfl rfl tw_160 e dX6_write_95 ?_
    have hn : M10.1 ≤ lim := by rw [wfI_n e]; exact hn
    refine s_aload_n (pc := 98) O dX6_write_98 rfl 0 rfl ?_
    obtain ⟨v11, e, h⟩ := bd h
    refine s_getR (pc := 99) O kc6 (k := 2) rfl tw_251 e dX6_write_99 ?_
    obtain ⟨v12, e, h⟩ := bd h
    refine s_getI (pc := 102) O kc0 (k := 1) rfl tw_160 e dX6_write_102 ?_
    cases h
    exact s_iret (pc := 105) O hK dX6_write_105
  · have h := ifn c h
    refine s_bipush (pc := 66) O (v := (-3)) dX6_write_66 (by decide) ?_
    cases h
    exact s_iret (pc := 68) O hK dX6_write_68
def f_X6_write (M : MM) (p0 : Nat) (a1 : Int32) : Option (Int32 × MM) :=
  if p0 < M.1 ∧ kd p0 = 6 then ((fR M p0 6 1).bind fun v1 => (f_X1_canBeSaid M v1 a1).bind fun v2 => if v2 = 0 then (some (((-1), M))) else ((fR M p0 6 2).bind fun v3 => (fI M v3 0 1).bind fun v4 => if v4 ≤ 0 then (j_X6_write_54 M p0 a1) else ((fR M p0 6 1).bind fun v5 => (fR M p0 6 2).bind fun v6 => (fR M v6 0 0).bind fun v7 => (fR M p0 6 2).bind fun v8 => (fI M v8 0 1).bind fun v9 => (aI M v7 ((v9 - 1))).bind fun v10 => (f_X1_isAnswer M v5 v10 a1).bind fun v11 => if v11 = 0 then (some (((-2), M))) else (j_X6_write_54 M p0 a1)))) else none
theorem r_X6_write {M : MM} {p0 : Nat} {a1 : Int32} {o : Int32 × MM} (h : f_X6_write M p0 a1 = some o) : p0 < M.1 ∧ kd p0 = 6 := by
  unfold f_X6_write at h
  exact (gd h).1
theorem cy_X6_write : CallY yX6_write cX6_write 2 (some .int) 1 := ⟨by decide +kernel, tw_446, tw_40, by decide⟩
set_option maxHeartbeats 4000000 in
set_option maxRecDepth 100000 in
theorem c_X6_write {G : GG} {M : MM} {p0 : Nat} {a1 : Int32} {r : Int32} {M' : MM} (h : f_X6_write M p0 a1 = some (r, M')) (hn : M.1 ≤ M'.1) : Ct G yX6_write cX6_write 2 (some .int) 1 [rf G p0, .int a1] M (some (.int r)) M' := by
  refine ct_of (by decide +kernel) (Nat.le_of_ble_eq_true rfl) (fun X hX O hK hi0 => ?_)
  subst hX
  obtain ⟨lim, hlim⟩ : ∃ z, z = M'.1 := ⟨_, rfl⟩
  rw [← hlim] at O hn
  replace O : OKX X cX6_write RX6 1 lim 2 := O
  have hi : True := trivial
  show WS X M 0 [(0, rf X.1 p0), (1, .int a1)] []
  replace hK : (fun (q : Int32 × MM) => RTX X (some .int) (some (.int q.1)) q.2) (r, M') := hK
  generalize (r, M') = o at h hK
  unfold f_X6_write at h
  obtain ⟨hg0, h⟩ := gd h
  refine s_aload_n (pc := 0) O dX6_write_0 rfl 0 rfl ?_
  obtain ⟨v1, e, h⟩ := bd h
  refine s_getR (pc := 1) O kc6 (k := 1) rfl tw_250 e dX6_write_1 ?_
  refine s_iload_n (pc := 4) O dX6_write_4 rfl 1 rfl ?_
  obtain ⟨v2, e, h⟩ := bd h
  refine s_callVi (pc := 5) O (As := [.int a1]) kc1 (c_X1_canBeSaid (G := X.1) e) cy_X1_canBeSaid tw_431 tw_432 tw_433 (by decide) rfl (Nat.le_refl _) hn (r_X1_canBeSaid e).1 (r_X1_canBeSaid e).2 rfl (Nat.le_of_ble_eq_true rfl) dX6_write_5 ?_
  refine s_if_ne (pc := 8) O (tgt := 13) dX6_write_8 (by decide) (fun c => ?_) (fun c => ?_)
  · have h := ifn c h
    refine s_aload_n (pc := 13) O dX6_write_13 rfl 0 rfl ?_
    obtain ⟨v3, e, h⟩ := bd h
    refine s_getR (pc := 14) O kc6 (k := 2) rfl tw_251 e dX6_write_14 ?_
    obtain ⟨v4, e, h⟩ := bd h
    refine s_getI (pc := 17) O kc0 (k := 1) rfl tw_160 e dX6_write_17 ?_
    refine s_if_le (pc := 20) O (tgt := 54) dX6_write_20 (by decide) (fun c => ?_) (fun c => ?_)
    · have h := ifp c h
      exact s_sub (pc := 54) O [0, 1] rfl (g_X6_write_54 O hi hn h hK)
    · have h := ifn c h
      refine s_aload_n (pc := 23) O dX6_write_23 rfl 0 rfl ?_
      obtain ⟨v5, e, h⟩ := bd h
      refine s_getR (pc := 24) O kc6 (k := 1) rfl tw_250 e dX6_write_24 ?_
      refine s_aload_n (pc := 27) O dX6_write_27 rfl 0 rfl ?_
      obtain ⟨v6, e, h⟩ := bd h
      refine s_getR (pc := 28) O kc6 (k := 2) rfl tw_251 e dX6_write_28 ?_
      obtain ⟨v7, e, h⟩ := bd h
      refine s_getR (pc := 31) O kc0 (k := 0) rfl tw_158 e dX6_write_31 ?_
      refine s_aload_n (pc := 34) O dX6_write_34 rfl 0 rfl ?_
      obtain ⟨v8, e, h⟩ := bd h
      refine s_getR (pc := 35) O kc6 (k := 2) rfl tw_251 e dX6_write_35 ?_
      obtain ⟨v9, e, h⟩ := bd h
      refine s_getI (pc := 38) O kc0 (k := 1) rfl tw_160 e dX6_write_38 ?_
      refine s_iconst (pc := 41) O (v := 1) dX6_write_41 (by decide) ?_
      refine s_isub (pc := 42) O dX6_write_42 ?_
      obtain ⟨v10, e, h⟩ := bd h
      refine s_aldI (pc := 43) O e dX6_write_43 ?_
      refine s_iload_n (pc := 44) O dX6_write_44 rfl 1 rfl ?_
      obtain ⟨v11, e, h⟩ := bd h
      refine s_callVi (pc := 45) O (As := [.int v10, .int a1]) kc1 (c_X1_isAnswer (G := X.1) e) cy_X1_isAnswer tw_447 tw_448 tw_449 (by decide) rfl (Nat.le_refl _) hn (r_X1_isAnswer e).1 (r_X1_isAnswer e).2 rfl (Nat.le_of_ble_eq_true rfl) dX6_write_45 ?_
      refine s_if_ne (pc := 48) O (tgt := 54) dX6_write_48 (by decide) (fun c => ?_) (fun c => ?_)
      · have h := ifn c h
        exact s_sub (pc := 54) O [0, 1] rfl (g_X6_write_54 O hi hn h hK)
      · have h := ifp c h
        refine s_bipush (pc := 51) O (v := (-2)) dX6_write_51 (by decide) ?_
        cases h
        exact s_iret (pc := 53) O hK dX6_write_53
  · have h := ifp c h
    refine s_iconst (pc := 11) O (v := (-1)) dX6_write_11 (by decide) ?_
    cases h
    exact s_iret (pc := 12) O hK dX6_write_12

def j_X1_fillRow_284 (M : MM) (p0 : Nat) (a1 : Int32) (p2 : Nat) (a7 : Int32) (s0 : Int32) (s1 : Int32) (s2 : Nat) : Option ((MM) ⊕ (Int32 × MM)) :=
  (waZ M s2 s1 s0).bind fun M1 => some ((.inr ((a7 + 1), M1)))
set_option maxHeartbeats 4000000 in
set_option maxRecDepth 100000 in
theorem g_X1_fillRow_284 {X : CT} {lim : Nat} {M : MM} {p0 : Nat} {a1 : Int32} {p2 : Nat} {a7 : Int32} {s0 : Int32} {s1 : Int32} {s2 : Nat} (O : OKX X cX1_fillRow RX1 2 lim 8) (hi : True) (hn : M.1 ≤ lim) {o : (MM) ⊕ (Int32 × MM)} (h : j_X1_fillRow_284 M p0 a1 p2 a7 s0 s1 s2 = some o) (hK : (KI (fun (q : MM) => RTX X none none q) (fun (t : Int32 × MM) => t.2.1 ≤ lim → WS X t.2 237 [(0, rf X.1 p0), (1, .int a1), (2, rf X.1 p2), (7, .int t.1)] [])) o) : WS X M 284 [(0, rf X.1 p0), (1, .int a1), (2, rf X.1 p2), (7, .int a7)] [.int s0, .int s1, rf X.1 s2] := by
  unfold j_X1_fillRow_284 at h
  obtain ⟨M1, e, h⟩ := bd h
  refine s_astZ (pc := 284) O e dX1_fillRow_284 ?_
  have hn : M1.1 ≤ lim := by rw [waZ_n e]; exact hn
  refine s_iinc (pc := 285) O (v := (a7 + 1)) (loc' := [(7, .int (a7 + 1)), (0, rf X.1 p0), (1, .int a1), (2, rf X.1 p2)]) dX1_fillRow_285 3 rfl rfl (by decide) rfl ?_
  refine s_goto (pc := 288) O (tgt := 237) dX1_fillRow_288 (by decide) ?_
  cases h
  exact s_sub (pc := 237) O [1, 2, 3, 0] rfl (hK hn)
def j_X1_fillRow_279 (M : MM) (p0 : Nat) (a1 : Int32) (p2 : Nat) (a7 : Int32) (s0 : Int32) (s1 : Nat) : Option ((MM) ⊕ (Int32 × MM)) :=
  j_X1_fillRow_284 M p0 a1 p2 a7 1 s0 s1
set_option maxHeartbeats 4000000 in
set_option maxRecDepth 100000 in
theorem g_X1_fillRow_279 {X : CT} {lim : Nat} {M : MM} {p0 : Nat} {a1 : Int32} {p2 : Nat} {a7 : Int32} {s0 : Int32} {s1 : Nat} (O : OKX X cX1_fillRow RX1 2 lim 8) (hi : True) (hn : M.1 ≤ lim) {o : (MM) ⊕ (Int32 × MM)} (h : j_X1_fillRow_279 M p0 a1 p2 a7 s0 s1 = some o) (hK : (KI (fun (q : MM) => RTX X none none q) (fun (t : Int32 × MM) => t.2.1 ≤ lim → WS X t.2 237 [(0, rf X.1 p0), (1, .int a1), (2, rf X.1 p2), (7, .int t.1)] [])) o) : WS X M 279 [(0, rf X.1 p0), (1, .int a1), (2, rf X.1 p2), (7, .int a7)] [.int s0, rf X.1 s1] := by
  unfold j_X1_fillRow_279 at h
  refine s_iconst (pc := 279) O (v := 1) dX1_fillRow_279 (by decide) ?_
  refine s_goto (pc := 280) O (tgt := 284) dX1_fillRow_280 (by decide) ?_
  exact s_sub (pc := 284) O [0, 1, 2, 3] rfl (g_X1_fillRow_284 O hi hn h hK)
def z_X1_fillRow_237 (M : MM) (p0 : Nat) (a1 : Int32) (p2 : Nat) (a7 : Int32) : Option ((MM) ⊕ (Int32 × MM)) :=
  (fI M p2 4 3).bind fun v1 => if v1 ≤ a7 then (some ((.inl M))) else ((fR M p0 1 0).bind fun v2 => (fR M p0 1 0).bind fun v3 => (aZ M v3 a1).bind fun v4 => if v4 = 0 then ((fR M p2 4 1).bind fun v5 => (aR M v5 12 a7).bind fun v6 => (f_X2_row M v6).bind fun v7 => (fR M p0 1 1).bind fun v8 => (aI M v8 a1).bind fun v9 => if v7 = v9 then (j_X1_fillRow_279 M p0 a1 p2 a7 a1 v2) else (j_X1_fillRow_284 M p0 a1 p2 a7 0 a1 v2)) else (j_X1_fillRow_279 M p0 a1 p2 a7 a1 v2))
set_option maxHeartbeats 4000000 in
set_option maxRecDepth 100000 in
theorem b_X1_fillRow_237 {X : CT} {lim : Nat} {M : MM} {p0 : Nat} {a1 : Int32} {p2 : Nat} {a7 : Int32} (O : OKX X cX1_fillRow RX1 2 lim 8) (hi : True) (hn : M.1 ≤ lim) {o : (MM) ⊕ (Int32 × MM)} (h : z_X1_fillRow_237 M p0 a1 p2 a7 = some o) (hK : (KI (fun (q : MM) => RTX X none none q) (fun (t : Int32 × MM) => t.2.1 ≤ lim → WS X t.2 237 [(0, rf X.1 p0), (1, .int a1), (2, rf X.1 p2), (7, .int t.1)] [])) o) : WS X M 237 [(0, rf X.1 p0), (1, .int a1), (2, rf X.1 p2), (7, .int a7)] [] := by
  unfold z_X1_fillRow_237 at h
  refine s_iload (pc := 237) O dX1_fillRow_237 3 rfl ?_
  refine s_aload_n (pc := 239) O dX1_fillRow_239 rfl 2 rfl ?_
  obtain ⟨v1, e, h⟩ := bd h
  refine s_getI (pc := 240) O kc4 (k := 3) rfl tw_238 e dX1_fillRow_240 ?_
  refine s_icmp_ge (pc := 243) O (tgt := 291) dX1_fillRow_243 (by decide) (fun c => ?_) (fun c => ?_)
  · have h := ifp c h
    cases h
    exact s_vret (pc := 291) O hK dX1_fillRow_291
  · have h := ifn c h
    refine s_aload_n (pc := 246) O dX1_fillRow_246 rfl 0 rfl ?_
    obtain ⟨v2, e, h⟩ := bd h
    refine s_getR (pc := 247) O kc1 (k := 0) rfl tw_101 e dX1_fillRow_247 ?_
    refine s_iload_n (pc := 250) O dX1_fillRow_250 rfl 1 rfl ?_
    refine s_aload_n (pc := 251) O dX1_fillRow_251 rfl 0 rfl ?_
    obtain ⟨v3, e, h⟩ := bd h
    refine s_getR (pc := 252) O kc1 (k := 0) rfl tw_101 e dX1_fillRow_252 ?_
    refine s_iload_n (pc := 255) O dX1_fillRow_255 rfl 1 rfl ?_
    obtain ⟨v4, e, h⟩ := bd h
    refine s_aldZ (pc := 256) O e dX1_fillRow_256 ?_
    refine s_if_ne (pc := 257) O (tgt := 279) dX1_fillRow_257 (by decide) (fun c => ?_) (fun c => ?_)
    · have h := ifn c h
      exact s_sub (pc := 279) O [0, 1, 2, 3] rfl (g_X1_fillRow_279 O hi hn h hK)
    · have h := ifp c h
      refine s_aload_n (pc := 260) O dX1_fillRow_260 rfl 2 rfl ?_
      obtain ⟨v5, e, h⟩ := bd h
      refine s_getR (pc := 261) O kc4 (k := 1) rfl tw_232 e dX1_fillRow_261 ?_
      refine s_iload (pc := 264) O dX1_fillRow_264 3 rfl ?_
      obtain ⟨v6, e, h⟩ := bd h
      refine s_aldR12 (pc := 266) O e dX1_fillRow_266 ?_
      obtain ⟨v7, e, h⟩ := bd h
      refine s_callVi (pc := 267) O (As := []) kc2 (c_X2_row (G := X.1) e) cy_X2_row tw_397 tw_398 tw_399 (by decide) rfl (Nat.le_refl _) hn (r_X2_row e).1 (r_X2_row e).2 rfl (Nat.le_of_ble_eq_true rfl) dX1_fillRow_267 ?_
      refine s_aload_n (pc := 270) O dX1_fillRow_270 rfl 0 rfl ?_
      obtain ⟨v8, e, h⟩ := bd h
      refine s_getR (pc := 271) O kc1 (k := 1) rfl tw_102 e dX1_fillRow_271 ?_
      refine s_iload_n (pc := 274) O dX1_fillRow_274 rfl 1 rfl ?_
      obtain ⟨v9, e, h⟩ := bd h
      refine s_aldI (pc := 275) O e dX1_fillRow_275 ?_
      refine s_icmp_ne (pc := 276) O (tgt := 283) dX1_fillRow_276 (by decide) (fun c => ?_) (fun c => ?_)
      · have h := ifn c h
        refine s_iconst (pc := 283) O (v := 0) dX1_fillRow_283 (by decide) ?_
        exact s_sub (pc := 284) O [0, 1, 2, 3] rfl (g_X1_fillRow_284 O hi hn h hK)
      · have h := ifp c h
        exact s_sub (pc := 279) O [0, 1, 2, 3] rfl (g_X1_fillRow_279 O hi hn h hK)
set_option maxHeartbeats 4000000 in
set_option maxRecDepth 100000 in
theorem l_X1_fillRow_237 {X : CT} {lim : Nat} {M : MM} {p0 : Nat} {a1 : Int32} {p2 : Nat} {a7 : Int32} (O : OKX X cX1_fillRow RX1 2 lim 8) (hi : True) (hn : M.1 ≤ lim) {o : MM} {n : Nat} (h : lp (fun t => z_X1_fillRow_237 t.2 p0 a1 p2 t.1) n (a7, M) = some o) (hK : (fun (q : MM) => RTX X none none q) o) : WS X M 237 [(0, rf X.1 p0), (1, .int a1), (2, rf X.1 p2), (7, .int a7)] [] := by
  refine lp_ind (P := fun (o : MM) (t : Int32 × MM) => t.2.1 ≤ lim → (fun (q : MM) => RTX X none none q) o → WS X t.2 237 [(0, rf X.1 p0), (1, .int a1), (2, rf X.1 p2), (7, .int t.1)] []) (fun t o hs hn hK => ?_) n (a7, M) o h hn hK
  rcases hs with h | ⟨u, h, hu⟩
  · exact b_X1_fillRow_237 O hi hn h hK
  · exact b_X1_fillRow_237 O hi hn h (show KI _ _ (.inr u) from fun hn => hu hn hK)
def z_X1_fillRow_177 (M : MM) (p0 : Nat) (a1 : Int32) (p2 : Nat) (p6 : Nat) (a7 : Int32) : Option ((MM) ⊕ (Int32 × MM)) :=
  (fI M p6 5 1).bind fun v1 => if v1 ≤ a7 then ((lp (fun t => z_X1_fillRow_237 t.2 p0 a1 p2 t.1) FU (0, M)).map .inl) else ((fR M p0 1 5).bind fun v2 => (aJ M v2 a1).bind fun v3 => (fR M p6 5 0).bind fun v4 => (aI M v4 a7).bind fun v5 => (waJ M v2 a1 ((v3 + ((1 : Int64) <<< (((8 * v5) : Int32).toInt64 &&& 63))))).bind fun M6 => (fR M6 p0 1 6).bind fun v7 => (aI M6 v7 a1).bind fun v8 => (fR M6 p6 5 0).bind fun v9 => (aI M6 v9 a7).bind fun v10 => (waI M6 v7 a1 ((v8 ||| (1 <<< (v10 &&& 31))))).bind fun M11 => some ((.inr ((a7 + 1), M11))))
set_option maxHeartbeats 4000000 in
set_option maxRecDepth 100000 in
theorem b_X1_fillRow_177 {X : CT} {lim : Nat} {M : MM} {p0 : Nat} {a1 : Int32} {p2 : Nat} {p6 : Nat} {a7 : Int32} (O : OKX X cX1_fillRow RX1 2 lim 8) (hi : True) (hn : M.1 ≤ lim) {o : (MM) ⊕ (Int32 × MM)} (h : z_X1_fillRow_177 M p0 a1 p2 p6 a7 = some o) (hK : (KI (fun (q : MM) => RTX X none none q) (fun (t : Int32 × MM) => t.2.1 ≤ lim → WS X t.2 177 [(0, rf X.1 p0), (1, .int a1), (2, rf X.1 p2), (6, rf X.1 p6), (7, .int t.1)] [])) o) : WS X M 177 [(0, rf X.1 p0), (1, .int a1), (2, rf X.1 p2), (6, rf X.1 p6), (7, .int a7)] [] := by
  unfold z_X1_fillRow_177 at h
  refine s_iload (pc := 177) O dX1_fillRow_177 4 rfl ?_
  refine s_aload (pc := 179) O dX1_fillRow_179 3 rfl ?_
  obtain ⟨v1, e, h⟩ := bd h
  refine s_getI (pc := 181) O kc5 (k := 1) rfl tw_189 e dX1_fillRow_181 ?_
  refine s_icmp_ge (pc := 184) O (tgt := 234) dX1_fillRow_184 (by decide) (fun c => ?_) (fun c => ?_)
  · have h := ifp c h
    obtain ⟨q0, hq0, ho0⟩ := mpi h; subst ho0; replace h := hq0
    refine s_iconst (pc := 234) O (v := 0) dX1_fillRow_234 (by decide) ?_
    refine s_istore (pc := 235) O (loc' := [(7, .int 0), (0, rf X.1 p0), (1, .int a1), (2, rf X.1 p2), (6, rf X.1 p6)]) dX1_fillRow_235 (by decide) rfl ?_
    exact s_sub (pc := 237) O [1, 2, 3, 0] rfl (l_X1_fillRow_237 O hi hn h hK)
  · have h := ifn c h
    refine s_aload_n (pc := 187) O dX1_fillRow_187 rfl 0 rfl ?_
    obtain ⟨v2, e, h⟩ := bd h
    refine s_getR (pc := 188) O kc1 (k := 5) rfl tw_109 e dX1_fillRow_188 ?_
    refine s_iload_n (pc := 191) O dX1_fillRow_191 rfl 1 rfl ?_
    refine s_dup2 (pc := 192) O dX1_fillRow_192 rfl rfl ?_
    obtain ⟨v3, e, h⟩ := bd h
    refine s_aldJ (pc := 193) O e dX1_fillRow_193 ?_
    refine s_lconst (pc := 194) O (v := 1) dX1_fillRow_194 (by decide) ?_
    refine s_bipush (pc := 195) O (v := 8) dX1_fillRow_195 (by decide) ?_
    refine s_aload (pc := 197) O dX1_fillRow_197 3 rfl ?_
    obtain ⟨v4, e, h⟩ := bd h
    refine s_getR (pc := 199) O kc5 (k := 0) rfl tw_186 e dX1_fillRow_199 ?_
    refine s_iload (pc := 202) O dX1_fillRow_202 4 rfl ?_
    obtain ⟨v5, e, h⟩ := bd h
    refine s_aldI (pc := 204) O e dX1_fillRow_204 ?_
    refine s_imul (pc := 205) O dX1_fillRow_205 ?_
    refine s_lshl (pc := 206) O dX1_fillRow_206 ?_
    refine s_ladd (pc := 207) O dX1_fillRow_207 ?_
    obtain ⟨M6, e, h⟩ := bd h
    refine s_astJ (pc := 208) O e dX1_fillRow_208 ?_
    have hn : M6.1 ≤ lim := by rw [waJ_n e]; exact hn
    refine s_aload_n (pc := 209) O dX1_fillRow_209 rfl 0 rfl ?_
    obtain ⟨v7, e, h⟩ := bd h
    refine s_getR (pc := 210) O kc1 (k := 6) rfl tw_110 e dX1_fillRow_210 ?_
    refine s_iload_n (pc := 213) O dX1_fillRow_213 rfl 1 rfl ?_
    refine s_dup2 (pc := 214) O dX1_fillRow_214 rfl rfl ?_
    obtain ⟨v8, e, h⟩ := bd h
    refine s_aldI (pc := 215) O e dX1_fillRow_215 ?_
    refine s_iconst (pc := 216) O (v := 1) dX1_fillRow_216 (by decide) ?_
    refine s_aload (pc := 217) O dX1_fillRow_217 3 rfl ?_
    obtain ⟨v9, e, h⟩ := bd h
    refine s_getR (pc := 219) O kc5 (k := 0) rfl tw_186 e dX1_fillRow_219 ?_
    refine s_iload (pc := 222) O dX1_fillRow_222 4 rfl ?_
    obtain ⟨v10, e, h⟩ := bd h
    refine s_aldI (pc := 224) O e dX1_fillRow_224 ?_
    refine s_ishl (pc := 225) O dX1_fillRow_225 ?_
    refine s_ior (pc := 226) O dX1_fillRow_226 ?_
    obtain ⟨M11, e, h⟩ := bd h
    refine s_astI (pc := 227) O e dX1_fillRow_227 ?_
    have hn : M11.1 ≤ lim := by rw [waI_n e]; exact hn
    refine s_iinc (pc := 228) O (v := (a7 + 1)) (loc' := [(7, .int (a7 + 1)), (0, rf X.1 p0), (1, .int a1), (2, rf X.1 p2), (6, rf X.1 p6)]) dX1_fillRow_228 4 rfl rfl (by decide) rfl ?_
    refine s_goto (pc := 231) O (tgt := 177) dX1_fillRow_231 (by decide) ?_
    cases h
    exact s_sub (pc := 177) O [1, 2, 3, 4, 0] rfl (hK hn)
set_option maxHeartbeats 4000000 in
set_option maxRecDepth 100000 in
theorem l_X1_fillRow_177 {X : CT} {lim : Nat} {M : MM} {p0 : Nat} {a1 : Int32} {p2 : Nat} {p6 : Nat} {a7 : Int32} (O : OKX X cX1_fillRow RX1 2 lim 8) (hi : True) (hn : M.1 ≤ lim) {o : MM} {n : Nat} (h : lp (fun t => z_X1_fillRow_177 t.2 p0 a1 p2 p6 t.1) n (a7, M) = some o) (hK : (fun (q : MM) => RTX X none none q) o) : WS X M 177 [(0, rf X.1 p0), (1, .int a1), (2, rf X.1 p2), (6, rf X.1 p6), (7, .int a7)] [] := by
  refine lp_ind (P := fun (o : MM) (t : Int32 × MM) => t.2.1 ≤ lim → (fun (q : MM) => RTX X none none q) o → WS X t.2 177 [(0, rf X.1 p0), (1, .int a1), (2, rf X.1 p2), (6, rf X.1 p6), (7, .int t.1)] []) (fun t o hs hn hK => ?_) n (a7, M) o h hn hK
  rcases hs with h | ⟨u, h, hu⟩
  · exact b_X1_fillRow_177 O hi hn h hK
  · exact b_X1_fillRow_177 O hi hn h (show KI _ _ (.inr u) from fun hn => hu hn hK)
def j_X1_fillRow_59 (M : MM) (p0 : Nat) (a1 : Int32) (p2 : Nat) (a3 : Int32) (a4 : Int32) (s0 : Int32) : Option (MM) :=
  if s0 = 0 then (some M) else ((fR M p2 4 0).bind fun v1 => (aR M v1 13 a4).bind fun v2 => (fR M p0 1 1).bind fun v3 => (fR M p0 1 1).bind fun v4 => (aI M v4 a3).bind fun v5 => (fI M v2 5 2).bind fun v6 => (f_X2_lengthened M v5 v6).bind fun v7 => (waI M v3 a1 v7).bind fun M8 => (fR M8 p0 1 2).bind fun v9 => (fR M8 p0 1 2).bind fun v10 => (aI M8 v10 a3).bind fun v11 => (fI M8 v2 5 3).bind fun v12 => (waI M8 v9 a1 ((v11 + v12))).bind fun M13 => (fR M13 p0 1 3).bind fun v14 => (fR M13 p0 1 3).bind fun v15 => (aI M13 v15 a3).bind fun v16 => (fI M13 v2 5 4).bind fun v17 => (waI M13 v14 a1 ((v16 + v17))).bind fun M18 => (fR M18 p0 1 4).bind fun v19 => (fR M18 p0 1 4).bind fun v20 => (aI M18 v20 a3).bind fun v21 => (fI M18 v2 5 1).bind fun v22 => (waI M18 v19 a1 ((v21 + v22))).bind fun M23 => (fR M23 p0 1 5).bind fun v24 => (fR M23 p0 1 5).bind fun v25 => (aJ M23 v25 a3).bind fun v26 => (waJ M23 v24 a1 v26).bind fun M27 => (fR M27 p0 1 6).bind fun v28 => (fR M27 p0 1 6).bind fun v29 => (aI M27 v29 a3).bind fun v30 => (waI M27 v28 a1 v30).bind fun M31 => lp (fun t => z_X1_fillRow_177 t.2 p0 a1 p2 v2 t.1) FU (0, M31))
set_option maxHeartbeats 4000000 in
set_option maxRecDepth 100000 in
theorem g_X1_fillRow_59 {X : CT} {lim : Nat} {M : MM} {p0 : Nat} {a1 : Int32} {p2 : Nat} {a3 : Int32} {a4 : Int32} {s0 : Int32} (O : OKX X cX1_fillRow RX1 2 lim 8) (hi : True) (hn : M.1 ≤ lim) {o : MM} (h : j_X1_fillRow_59 M p0 a1 p2 a3 a4 s0 = some o) (hK : (fun (q : MM) => RTX X none none q) o) : WS X M 59 [(0, rf X.1 p0), (1, .int a1), (2, rf X.1 p2), (3, .int a3), (4, .int a4)] [.int s0] := by
  unfold j_X1_fillRow_59 at h
  refine s_istore (pc := 59) O (loc' := [(5, .int s0), (0, rf X.1 p0), (1, .int a1), (2, rf X.1 p2), (3, .int a3), (4, .int a4)]) dX1_fillRow_59 (by decide) rfl ?_
  refine s_iload (pc := 61) O dX1_fillRow_61 0 rfl ?_
  refine s_if_ne (pc := 63) O (tgt := 67) dX1_fillRow_63 (by decide) (fun c => ?_) (fun c => ?_)
  · have h := ifn c h
    refine s_aload_n (pc := 67) O dX1_fillRow_67 rfl 3 rfl ?_
    obtain ⟨v1, e, h⟩ := bd h
    refine s_getR (pc := 68) O kc4 (k := 0) rfl tw_229 e dX1_fillRow_68 ?_
    refine s_iload (pc := 71) O dX1_fillRow_71 5 rfl ?_
    obtain ⟨v2, e, h⟩ := bd h
    refine s_aldR13 (pc := 73) O e dX1_fillRow_73 ?_
    refine s_astore (pc := 74) O (loc' := [(6, rf X.1 v2), (5, .int s0), (0, rf X.1 p0), (1, .int a1), (2, rf X.1 p2), (3, .int a3), (4, .int a4)]) dX1_fillRow_74 (by decide) rfl ?_
    refine s_aload_n (pc := 76) O dX1_fillRow_76 rfl 2 rfl ?_
    obtain ⟨v3, e, h⟩ := bd h
    refine s_getR (pc := 77) O kc1 (k := 1) rfl tw_102 e dX1_fillRow_77 ?_
    refine s_iload_n (pc := 80) O dX1_fillRow_80 rfl 3 rfl ?_
    refine s_aload_n (pc := 81) O dX1_fillRow_81 rfl 2 rfl ?_
    obtain ⟨v4, e, h⟩ := bd h
    refine s_getR (pc := 82) O kc1 (k := 1) rfl tw_102 e dX1_fillRow_82 ?_
    refine s_iload_n (pc := 85) O dX1_fillRow_85 rfl 5 rfl ?_
    obtain ⟨v5, e, h⟩ := bd h
    refine s_aldI (pc := 86) O e dX1_fillRow_86 ?_
    refine s_aload (pc := 87) O dX1_fillRow_87 0 rfl ?_
    obtain ⟨v6, e, h⟩ := bd h
    refine s_getI (pc := 89) O kc5 (k := 2) rfl tw_193 e dX1_fillRow_89 ?_
    obtain ⟨v7, e, h⟩ := bd h
    refine s_callSi (pc := 92) O (As := [.int v5, .int v6]) (c_X2_lengthened (G := X.1) e) cy_X2_lengthened tw_394 tw_395 (by decide) rfl (Nat.le_refl _) hn rfl (Nat.le_of_ble_eq_true rfl) dX1_fillRow_92 ?_
    obtain ⟨M8, e, h⟩ := bd h
    refine s_astI (pc := 95) O e dX1_fillRow_95 ?_
    have hn : M8.1 ≤ lim := by rw [waI_n e]; exact hn
    refine s_aload_n (pc := 96) O dX1_fillRow_96 rfl 2 rfl ?_
    obtain ⟨v9, e, h⟩ := bd h
    refine s_getR (pc := 97) O kc1 (k := 2) rfl tw_103 e dX1_fillRow_97 ?_
    refine s_iload_n (pc := 100) O dX1_fillRow_100 rfl 3 rfl ?_
    refine s_aload_n (pc := 101) O dX1_fillRow_101 rfl 2 rfl ?_
    obtain ⟨v10, e, h⟩ := bd h
    refine s_getR (pc := 102) O kc1 (k := 2) rfl tw_103 e dX1_fillRow_102 ?_
    refine s_iload_n (pc := 105) O dX1_fillRow_105 rfl 5 rfl ?_
    obtain ⟨v11, e, h⟩ := bd h
    refine s_aldI (pc := 106) O e dX1_fillRow_106 ?_
    refine s_aload (pc := 107) O dX1_fillRow_107 0 rfl ?_
    obtain ⟨v12, e, h⟩ := bd h
    refine s_getI (pc := 109) O kc5 (k := 3) rfl tw_196 e dX1_fillRow_109 ?_
    refine s_iadd (pc := 112) O dX1_fillRow_112 ?_
    obtain ⟨M13, e, h⟩ := bd h
    refine s_astI (pc := 113) O e dX1_fillRow_113 ?_
    have hn : M13.1 ≤ lim := by rw [waI_n e]; exact hn
    refine s_aload_n (pc := 114) O dX1_fillRow_114 rfl 2 rfl ?_
    obtain ⟨v14, e, h⟩ := bd h
    refine s_getR (pc := 115) O kc1 (k := 3) rfl tw_105 e dX1_fillRow_115 ?_
    refine s_iload_n (pc := 118) O dX1_fillRow_118 rfl 3 rfl ?_
    refine s_aload_n (pc := 119) O dX1_fillRow_119 rfl 2 rfl ?_
    obtain ⟨v15, e, h⟩ := bd h
    refine s_getR (pc := 120) O kc1 (k := 3) rfl tw_105 e dX1_fillRow_120 ?_
    refine s_iload_n (pc := 123) O dX1_fillRow_123 rfl 5 rfl ?_
    obtain ⟨v16, e, h⟩ := bd h
    refine s_aldI (pc := 124) O e dX1_fillRow_124 ?_
    refine s_aload (pc := 125) O dX1_fillRow_125 0 rfl ?_
    obtain ⟨v17, e, h⟩ := bd h
    refine s_getI (pc := 127) O kc5 (k := 4) rfl tw_199 e dX1_fillRow_127 ?_
    refine s_iadd (pc := 130) O dX1_fillRow_130 ?_
    obtain ⟨M18, e, h⟩ := bd h
    refine s_astI (pc := 131) O e dX1_fillRow_131 ?_
    have hn : M18.1 ≤ lim := by rw [waI_n e]; exact hn
    refine s_aload_n (pc := 132) O dX1_fillRow_132 rfl 2 rfl ?_
    obtain ⟨v19, e, h⟩ := bd h
    refine s_getR (pc := 133) O kc1 (k := 4) rfl tw_107 e dX1_fillRow_133 ?_
    refine s_iload_n (pc := 136) O dX1_fillRow_136 rfl 3 rfl ?_
    refine s_aload_n (pc := 137) O dX1_fillRow_137 rfl 2 rfl ?_
    obtain ⟨v20, e, h⟩ := bd h
    refine s_getR (pc := 138) O kc1 (k := 4) rfl tw_107 e dX1_fillRow_138 ?_
    refine s_iload_n (pc := 141) O dX1_fillRow_141 rfl 5 rfl ?_
    obtain ⟨v21, e, h⟩ := bd h
    refine s_aldI (pc := 142) O e dX1_fillRow_142 ?_
    refine s_aload (pc := 143) O dX1_fillRow_143 0 rfl ?_
    obtain ⟨v22, e, h⟩ := bd h
    refine s_getI (pc := 145) O kc5 (k := 1) rfl tw_189 e dX1_fillRow_145 ?_
    refine s_iadd (pc := 148) O dX1_fillRow_148 ?_
    obtain ⟨M23, e, h⟩ := bd h
    refine s_astI (pc := 149) O e dX1_fillRow_149 ?_
    have hn : M23.1 ≤ lim := by rw [waI_n e]; exact hn
    refine s_aload_n (pc := 150) O dX1_fillRow_150 rfl 2 rfl ?_
    obtain ⟨v24, e, h⟩ := bd h
    refine s_getR (pc := 151) O kc1 (k := 5) rfl tw_109 e dX1_fillRow_151 ?_
    refine s_iload_n (pc := 154) O dX1_fillRow_154 rfl 3 rfl ?_
    refine s_aload_n (pc := 155) O dX1_fillRow_155 rfl 2 rfl ?_
    obtain ⟨v25, e, h⟩ := bd h
    refine s_getR (pc := 156) O kc1 (k := 5) rfl tw_109 e dX1_fillRow_156 ?_
    refine s_iload_n (pc := 159) O dX1_fillRow_159 rfl 5 rfl ?_
    obtain ⟨v26, e, h⟩ := bd h
    refine s_aldJ (pc := 160) O e dX1_fillRow_160 ?_
    obtain ⟨M27, e, h⟩ := bd h
    refine s_astJ (pc := 161) O e dX1_fillRow_161 ?_
    have hn : M27.1 ≤ lim := by rw [waJ_n e]; exact hn
    refine s_aload_n (pc := 162) O dX1_fillRow_162 rfl 2 rfl ?_
    obtain ⟨v28, e, h⟩ := bd h
    refine s_getR (pc := 163) O kc1 (k := 6) rfl tw_110 e dX1_fillRow_163 ?_
    refine s_iload_n (pc := 166) O dX1_fillRow_166 rfl 3 rfl ?_
    refine s_aload_n (pc := 167) O dX1_fillRow_167 rfl 2 rfl ?_
    obtain ⟨v29, e, h⟩ := bd h
    refine s_getR (pc := 168) O kc1 (k := 6) rfl tw_110 e dX1_fillRow_168 ?_
    refine s_iload_n (pc := 171) O dX1_fillRow_171 rfl 5 rfl ?_
    obtain ⟨v30, e, h⟩ := bd h
    refine s_aldI (pc := 172) O e dX1_fillRow_172 ?_
    obtain ⟨M31, e, h⟩ := bd h
    refine s_astI (pc := 173) O e dX1_fillRow_173 ?_
    have hn : M31.1 ≤ lim := by rw [waI_n e]; exact hn
    refine s_iconst (pc := 174) O (v := 0) dX1_fillRow_174 (by decide) ?_
    refine s_istore (pc := 175) O (loc' := [(7, .int 0), (6, rf X.1 v2), (5, .int s0), (0, rf X.1 p0), (1, .int a1), (2, rf X.1 p2), (3, .int a3), (4, .int a4)]) dX1_fillRow_175 (by decide) rfl ?_
    exact s_sub (pc := 177) O [3, 4, 5, 1, 0] rfl (l_X1_fillRow_177 O hi hn h hK)
  · have h := ifp c h
    cases h
    exact s_vret (pc := 66) O hK dX1_fillRow_66
def j_X1_fillRow_58 (M : MM) (p0 : Nat) (a1 : Int32) (p2 : Nat) (a3 : Int32) (a4 : Int32) : Option (MM) :=
  j_X1_fillRow_59 M p0 a1 p2 a3 a4 0
set_option maxHeartbeats 4000000 in
set_option maxRecDepth 100000 in
theorem g_X1_fillRow_58 {X : CT} {lim : Nat} {M : MM} {p0 : Nat} {a1 : Int32} {p2 : Nat} {a3 : Int32} {a4 : Int32} (O : OKX X cX1_fillRow RX1 2 lim 8) (hi : True) (hn : M.1 ≤ lim) {o : MM} (h : j_X1_fillRow_58 M p0 a1 p2 a3 a4 = some o) (hK : (fun (q : MM) => RTX X none none q) o) : WS X M 58 [(0, rf X.1 p0), (1, .int a1), (2, rf X.1 p2), (3, .int a3), (4, .int a4)] [] := by
  unfold j_X1_fillRow_58 at h
  refine s_iconst (pc := 58) O (v := 0) dX1_fillRow_58 (by decide) ?_
  exact s_sub (pc := 59) O [0, 1, 2, 3, 4] rfl (g_X1_fillRow_59 O hi hn h hK)
def j_X1_fillRow_54 (M : MM) (p0 : Nat) (a1 : Int32) (p2 : Nat) (a3 : Int32) (a4 : Int32) : Option (MM) :=
  j_X1_fillRow_59 M p0 a1 p2 a3 a4 1
set_option maxHeartbeats 4000000 in
set_option maxRecDepth 100000 in
theorem g_X1_fillRow_54 {X : CT} {lim : Nat} {M : MM} {p0 : Nat} {a1 : Int32} {p2 : Nat} {a3 : Int32} {a4 : Int32} (O : OKX X cX1_fillRow RX1 2 lim 8) (hi : True) (hn : M.1 ≤ lim) {o : MM} (h : j_X1_fillRow_54 M p0 a1 p2 a3 a4 = some o) (hK : (fun (q : MM) => RTX X none none q) o) : WS X M 54 [(0, rf X.1 p0), (1, .int a1), (2, rf X.1 p2), (3, .int a3), (4, .int a4)] [] := by
  unfold j_X1_fillRow_54 at h
  refine s_iconst (pc := 54) O (v := 1) dX1_fillRow_54 (by decide) ?_
  refine s_goto (pc := 55) O (tgt := 59) dX1_fillRow_55 (by decide) ?_
  exact s_sub (pc := 59) O [0, 1, 2, 3, 4] rfl (g_X1_fillRow_59 O hi hn h hK)
def f_X1_fillRow (M : MM) (p0 : Nat) (a1 : Int32) (p2 : Nat) : Option (MM) :=
  if p0 < M.1 ∧ kd p0 = 1 then ((fR M p0 1 0).bind fun v1 => (waZ M v1 a1 0).bind fun M2 => (fR M2 p0 1 1).bind fun v3 => (waI M2 v3 a1 0).bind fun M4 => if ((a1 - a1 / 10 * 10) - 1) < 0 then (j_X1_fillRow_58 M4 p0 a1 p2 ((a1 / 10)) (((a1 - a1 / 10 * 10) - 1))) else ((fI M4 p2 4 2).bind fun v5 => if v5 ≤ ((a1 - a1 / 10 * 10) - 1) then (j_X1_fillRow_58 M4 p0 a1 p2 ((a1 / 10)) (((a1 - a1 / 10 * 10) - 1))) else (if (a1 / 10) = 0 then (j_X1_fillRow_54 M4 p0 a1 p2 ((a1 / 10)) (((a1 - a1 / 10 * 10) - 1))) else ((fR M4 p0 1 1).bind fun v6 => (aI M4 v6 ((a1 / 10))).bind fun v7 => if v7 = 0 then (j_X1_fillRow_58 M4 p0 a1 p2 ((a1 / 10)) (((a1 - a1 / 10 * 10) - 1))) else (j_X1_fillRow_54 M4 p0 a1 p2 ((a1 / 10)) (((a1 - a1 / 10 * 10) - 1))))))) else none
theorem r_X1_fillRow {M : MM} {p0 : Nat} {a1 : Int32} {p2 : Nat} {o : MM} (h : f_X1_fillRow M p0 a1 p2 = some o) : p0 < M.1 ∧ kd p0 = 1 := by
  unfold f_X1_fillRow at h
  exact (gd h).1
theorem cy_X1_fillRow : CallY yX1_fillRow cX1_fillRow 8 (none) 2 := ⟨by decide +kernel, tw_393, tw_42, by decide⟩
set_option maxHeartbeats 4000000 in
set_option maxRecDepth 100000 in
theorem c_X1_fillRow {G : GG} {M : MM} {p0 : Nat} {a1 : Int32} {p2 : Nat} {M' : MM} (h : f_X1_fillRow M p0 a1 p2 = some M') (hn : M.1 ≤ M'.1) : Ct G yX1_fillRow cX1_fillRow 8 (none) 2 [rf G p0, .int a1, rf G p2] M (none) M' := by
  refine ct_of (by decide +kernel) (Nat.le_of_ble_eq_true rfl) (fun X hX O hK hi0 => ?_)
  subst hX
  obtain ⟨lim, hlim⟩ : ∃ z, z = M'.1 := ⟨_, rfl⟩
  rw [← hlim] at O hn
  replace O : OKX X cX1_fillRow RX1 2 lim 8 := O
  have hi : True := trivial
  show WS X M 0 [(0, rf X.1 p0), (1, .int a1), (2, rf X.1 p2)] []
  unfold f_X1_fillRow at h
  obtain ⟨hg0, h⟩ := gd h
  refine s_iload_n (pc := 0) O dX1_fillRow_0 rfl 1 rfl ?_
  refine s_bipush (pc := 1) O (v := 10) dX1_fillRow_1 (by decide) ?_
  refine s_idiv (pc := 3) O dX1_fillRow_3 (by decide) ?_
  refine s_istore_n (pc := 4) O (loc' := [(3, .int (a1 / 10)), (0, rf X.1 p0), (1, .int a1), (2, rf X.1 p2)]) dX1_fillRow_4 rfl (by decide) rfl ?_
  refine s_iload_n (pc := 5) O dX1_fillRow_5 rfl 2 rfl ?_
  refine s_bipush (pc := 6) O (v := 10) dX1_fillRow_6 (by decide) ?_
  refine s_irem (pc := 8) O dX1_fillRow_8 (by decide) ?_
  refine s_iconst (pc := 9) O (v := 1) dX1_fillRow_9 (by decide) ?_
  refine s_isub (pc := 10) O dX1_fillRow_10 ?_
  refine s_istore (pc := 11) O (loc' := [(4, .int ((a1 - a1 / 10 * 10) - 1)), (3, .int (a1 / 10)), (0, rf X.1 p0), (1, .int a1), (2, rf X.1 p2)]) dX1_fillRow_11 (by decide) rfl ?_
  refine s_aload_n (pc := 13) O dX1_fillRow_13 rfl 2 rfl ?_
  obtain ⟨v1, e, h⟩ := bd h
  refine s_getR (pc := 14) O kc1 (k := 0) rfl tw_101 e dX1_fillRow_14 ?_
  refine s_iload_n (pc := 17) O dX1_fillRow_17 rfl 3 rfl ?_
  refine s_iconst (pc := 18) O (v := 0) dX1_fillRow_18 (by decide) ?_
  obtain ⟨M2, e, h⟩ := bd h
  refine s_astZ (pc := 19) O e dX1_fillRow_19 ?_
  have hn : M2.1 ≤ lim := by rw [waZ_n e]; exact hn
  refine s_aload_n (pc := 20) O dX1_fillRow_20 rfl 2 rfl ?_
  obtain ⟨v3, e, h⟩ := bd h
  refine s_getR (pc := 21) O kc1 (k := 1) rfl tw_102 e dX1_fillRow_21 ?_
  refine s_iload_n (pc := 24) O dX1_fillRow_24 rfl 3 rfl ?_
  refine s_iconst (pc := 25) O (v := 0) dX1_fillRow_25 (by decide) ?_
  obtain ⟨M4, e, h⟩ := bd h
  refine s_astI (pc := 26) O e dX1_fillRow_26 ?_
  have hn : M4.1 ≤ lim := by rw [waI_n e]; exact hn
  refine s_iload (pc := 27) O dX1_fillRow_27 0 rfl ?_
  refine s_if_lt (pc := 29) O (tgt := 58) dX1_fillRow_29 (by decide) (fun c => ?_) (fun c => ?_)
  · have h := ifp c h
    exact s_sub (pc := 58) O [2, 3, 4, 1, 0] rfl (g_X1_fillRow_58 O hi hn h hK)
  · have h := ifn c h
    refine s_iload (pc := 32) O dX1_fillRow_32 0 rfl ?_
    refine s_aload_n (pc := 34) O dX1_fillRow_34 rfl 4 rfl ?_
    obtain ⟨v5, e, h⟩ := bd h
    refine s_getI (pc := 35) O kc4 (k := 2) rfl tw_235 e dX1_fillRow_35 ?_
    refine s_icmp_ge (pc := 38) O (tgt := 58) dX1_fillRow_38 (by decide) (fun c => ?_) (fun c => ?_)
    · have h := ifp c h
      exact s_sub (pc := 58) O [2, 3, 4, 1, 0] rfl (g_X1_fillRow_58 O hi hn h hK)
    · have h := ifn c h
      refine s_iload_n (pc := 41) O dX1_fillRow_41 rfl 1 rfl ?_
      refine s_if_eq (pc := 42) O (tgt := 54) dX1_fillRow_42 (by decide) (fun c => ?_) (fun c => ?_)
      · have h := ifp c h
        exact s_sub (pc := 54) O [2, 3, 4, 1, 0] rfl (g_X1_fillRow_54 O hi hn h hK)
      · have h := ifn c h
        refine s_aload_n (pc := 45) O dX1_fillRow_45 rfl 2 rfl ?_
        obtain ⟨v6, e, h⟩ := bd h
        refine s_getR (pc := 46) O kc1 (k := 1) rfl tw_102 e dX1_fillRow_46 ?_
        refine s_iload_n (pc := 49) O dX1_fillRow_49 rfl 1 rfl ?_
        obtain ⟨v7, e, h⟩ := bd h
        refine s_aldI (pc := 50) O e dX1_fillRow_50 ?_
        refine s_if_eq (pc := 51) O (tgt := 58) dX1_fillRow_51 (by decide) (fun c => ?_) (fun c => ?_)
        · have h := ifp c h
          exact s_sub (pc := 58) O [2, 3, 4, 1, 0] rfl (g_X1_fillRow_58 O hi hn h hK)
        · have h := ifn c h
          exact s_sub (pc := 54) O [2, 3, 4, 1, 0] rfl (g_X1_fillRow_54 O hi hn h hK)

def f_X1_isNear (M : MM) (p0 : Nat) (a1 : Int32) (a2 : Int32) (a3 : Int32) : Option (Int32) :=
  if p0 < M.1 ∧ kd p0 = 1 then ((fR M p0 1 0).bind fun v1 => (aZ M v1 a2).bind fun v2 => if v2 = 0 then (some 0) else (if a2 = a1 then (some 0) else ((f_X1_difference M p0 a1 a2).bind fun v3 => if a3 < v3 then (some 0) else (some 1)))) else none
theorem r_X1_isNear {M : MM} {p0 : Nat} {a1 : Int32} {a2 : Int32} {a3 : Int32} {o : Int32} (h : f_X1_isNear M p0 a1 a2 a3 = some o) : p0 < M.1 ∧ kd p0 = 1 := by
  unfold f_X1_isNear at h
  exact (gd h).1
theorem cy_X1_isNear : CallY yX1_isNear cX1_isNear 4 (some .boolean) 3 := ⟨by decide +kernel, tw_492, tw_42, by decide⟩
set_option maxHeartbeats 4000000 in
set_option maxRecDepth 100000 in
theorem c_X1_isNear {G : GG} {M : MM} {p0 : Nat} {a1 : Int32} {a2 : Int32} {a3 : Int32} {r : Int32} (h : f_X1_isNear M p0 a1 a2 a3 = some r) : Ct G yX1_isNear cX1_isNear 4 (some .boolean) 2 [rf G p0, .int a1, .int a2, .int a3] M (some (.int r)) M := by
  refine ct_of (by decide +kernel) (Nat.le_of_ble_eq_true rfl) (fun X hX O hK hi0 => ?_)
  subst hX
  obtain ⟨lim, hlim⟩ : ∃ z, z = M.1 := ⟨_, rfl⟩
  rw [← hlim] at O
  replace O : OKX X cX1_isNear RX1 2 lim 4 := O
  have hi : True := trivial
  have hn : M.1 ≤ lim := Nat.le_of_eq hlim.symm
  show WS X M 0 [(0, rf X.1 p0), (1, .int a1), (2, .int a2), (3, .int a3)] []
  unfold f_X1_isNear at h
  obtain ⟨hg0, h⟩ := gd h
  refine s_aload_n (pc := 0) O dX1_isNear_0 rfl 0 rfl ?_
  obtain ⟨v1, e, h⟩ := bd h
  refine s_getR (pc := 1) O kc1 (k := 0) rfl tw_101 e dX1_isNear_1 ?_
  refine s_iload_n (pc := 4) O dX1_isNear_4 rfl 2 rfl ?_
  obtain ⟨v2, e, h⟩ := bd h
  refine s_aldZ (pc := 5) O e dX1_isNear_5 ?_
  refine s_if_eq (pc := 6) O (tgt := 28) dX1_isNear_6 (by decide) (fun c => ?_) (fun c => ?_)
  · have h := ifp c h
    refine s_iconst (pc := 28) O (v := 0) dX1_isNear_28 (by decide) ?_
    cases h
    exact s_zret (pc := 29) O (by decide) hK dX1_isNear_29
  · have h := ifn c h
    refine s_iload_n (pc := 9) O dX1_isNear_9 rfl 2 rfl ?_
    refine s_iload_n (pc := 10) O dX1_isNear_10 rfl 1 rfl ?_
    refine s_icmp_eq (pc := 11) O (tgt := 28) dX1_isNear_11 (by decide) (fun c => ?_) (fun c => ?_)
    · have h := ifp c h
      refine s_iconst (pc := 28) O (v := 0) dX1_isNear_28 (by decide) ?_
      cases h
      exact s_zret (pc := 29) O (by decide) hK dX1_isNear_29
    · have h := ifn c h
      refine s_aload_n (pc := 14) O dX1_isNear_14 rfl 0 rfl ?_
      refine s_iload_n (pc := 15) O dX1_isNear_15 rfl 1 rfl ?_
      refine s_iload_n (pc := 16) O dX1_isNear_16 rfl 2 rfl ?_
      obtain ⟨v3, e, h⟩ := bd h
      refine s_callVi (pc := 17) O (As := [.int a1, .int a2]) kc1 (c_X1_difference (G := X.1) e) cy_X1_difference tw_493 tw_495 tw_11 (by decide) rfl (Nat.le_refl _) hn (r_X1_difference e).1 (r_X1_difference e).2 rfl (Nat.le_of_ble_eq_true rfl) dX1_isNear_17 ?_
      refine s_iload_n (pc := 20) O dX1_isNear_20 rfl 3 rfl ?_
      refine s_icmp_gt (pc := 21) O (tgt := 28) dX1_isNear_21 (by decide) (fun c => ?_) (fun c => ?_)
      · have h := ifp c h
        refine s_iconst (pc := 28) O (v := 0) dX1_isNear_28 (by decide) ?_
        cases h
        exact s_zret (pc := 29) O (by decide) hK dX1_isNear_29
      · have h := ifn c h
        refine s_iconst (pc := 24) O (v := 1) dX1_isNear_24 (by decide) ?_
        refine s_goto (pc := 25) O (tgt := 29) dX1_isNear_25 (by decide) ?_
        cases h
        exact s_zret (pc := 29) O (by decide) hK dX1_isNear_29

def z_X4_init_50 (lim : Nat) (M : MM) (p0 : Nat) (a1 : Int32) : Option ((MM) ⊕ (Int32 × MM)) :=
  if (4 : Int32) ≤ a1 then (some ((.inl M))) else ((fR M p0 4 1).bind fun v1 => (nObj M lim 2).bind fun M2 => (f_X2_init (M2.1 + 1) M2 M.1).bind fun M3 => if M3.1 = M2.1 + 1 ∧ M2.1 + 1 ≤ lim then ((waR M3 v1 12 2 a1 M.1).bind fun M4 => some ((.inr ((a1 + 1), M4)))) else none)
set_option maxHeartbeats 4000000 in
set_option maxRecDepth 100000 in
theorem b_X4_init_50 {X : CT} {lim : Nat} {M : MM} {p0 : Nat} {a1 : Int32} (O : OKX X cX4_init RX4 2 lim 2) (hi : isInit X) (hn : M.1 ≤ lim) {o : (MM) ⊕ (Int32 × MM)} (h : z_X4_init_50 lim M p0 a1 = some o) (hK : (KI (fun (q : MM) => RTX X none none q) (fun (t : Int32 × MM) => t.2.1 ≤ lim → WS X t.2 50 [(0, rf X.1 p0), (1, .int t.1)] [])) o) : WS X M 50 [(0, rf X.1 p0), (1, .int a1)] [] := by
  unfold z_X4_init_50 at h
  refine s_iload_n (pc := 50) O dX4_init_50 rfl 1 rfl ?_
  refine s_iconst (pc := 51) O (v := 4) dX4_init_51 (by decide) ?_
  refine s_icmp_ge (pc := 52) O (tgt := 74) dX4_init_52 (by decide) (fun c => ?_) (fun c => ?_)
  · have h := ifp c h
    cases h
    exact s_vret (pc := 74) O hK dX4_init_74
  · have h := ifn c h
    refine s_aload_n (pc := 55) O dX4_init_55 rfl 0 rfl ?_
    obtain ⟨v1, e, h⟩ := bd h
    refine s_getR (pc := 56) O kc4 (k := 1) rfl tw_231 e dX4_init_56 ?_
    refine s_iload_n (pc := 59) O dX4_init_59 rfl 1 rfl ?_
    obtain ⟨M2, e, h⟩ := bd h
    refine s_new (pc := 60) O kc2 (by decide) tw_178 tw_212 tw_46 e dX4_init_60 ?_
    have hn : M2.1 ≤ lim := nObj_n e
    refine s_dup (pc := 63) O dX4_init_63 rfl ?_
    obtain ⟨M3, e, h⟩ := bd h
    obtain ⟨hg, h⟩ := gd h
    rw [← hg.1] at e
    refine s_callINv (pc := 64) O (As := []) (c_X2_init (G := X.1) e (by rw [hg.1]; omega)) cy_X2_init nw_4 tw_214 rfl (by decide) rfl (by rw [hg.1]; omega) (by rw [hg.1]; exact hg.2) rfl (Nat.le_of_ble_eq_true rfl) dX4_init_64 ?_
    have hn : M3.1 ≤ lim := by rw [hg.1]; exact hg.2
    obtain ⟨M4, e, h⟩ := bd h
    refine s_astR12 (pc := 67) O e dX4_init_67 ?_
    have hn : M4.1 ≤ lim := by rw [waR_n e]; exact hn
    refine s_iinc (pc := 68) O (v := (a1 + 1)) (loc' := [(1, .int (a1 + 1)), (0, rf X.1 p0)]) dX4_init_68 1 rfl rfl (by decide) rfl ?_
    refine s_goto (pc := 71) O (tgt := 50) dX4_init_71 (by decide) ?_
    cases h
    exact s_sub (pc := 50) O [1, 0] rfl (hK hn)
set_option maxHeartbeats 4000000 in
set_option maxRecDepth 100000 in
theorem l_X4_init_50 {X : CT} {lim : Nat} {M : MM} {p0 : Nat} {a1 : Int32} (O : OKX X cX4_init RX4 2 lim 2) (hi : isInit X) (hn : M.1 ≤ lim) {o : MM} {n : Nat} (h : lp (fun t => z_X4_init_50 lim t.2 p0 t.1) n (a1, M) = some o) (hK : (fun (q : MM) => RTX X none none q) o) : WS X M 50 [(0, rf X.1 p0), (1, .int a1)] [] := by
  refine lp_ind (P := fun (o : MM) (t : Int32 × MM) => t.2.1 ≤ lim → (fun (q : MM) => RTX X none none q) o → WS X t.2 50 [(0, rf X.1 p0), (1, .int t.1)] []) (fun t o hs hn hK => ?_) n (a1, M) o h hn hK
  rcases hs with h | ⟨u, h, hu⟩
  · exact b_X4_init_50 O hi hn h hK
  · exact b_X4_init_50 O hi hn h (show KI _ _ (.inr u) from fun hn => hu hn hK)
def z_X4_init_23 (lim : Nat) (M : MM) (p0 : Nat) (a1 : Int32) : Option ((MM) ⊕ (Int32 × MM)) :=
  if (9 : Int32) ≤ a1 then ((lp (fun t => z_X4_init_50 lim t.2 p0 t.1) FU (0, M)).map .inl) else ((fR M p0 4 0).bind fun v1 => (nObj M lim 5).bind fun M2 => (f_X5_init (M2.1 + 1) M2 M.1).bind fun M3 => if M3.1 = M2.1 + 1 ∧ M2.1 + 1 ≤ lim then ((waR M3 v1 13 5 a1 M.1).bind fun M4 => some ((.inr ((a1 + 1), M4)))) else none)
set_option maxHeartbeats 4000000 in
set_option maxRecDepth 100000 in
theorem b_X4_init_23 {X : CT} {lim : Nat} {M : MM} {p0 : Nat} {a1 : Int32} (O : OKX X cX4_init RX4 2 lim 2) (hi : isInit X) (hn : M.1 ≤ lim) {o : (MM) ⊕ (Int32 × MM)} (h : z_X4_init_23 lim M p0 a1 = some o) (hK : (KI (fun (q : MM) => RTX X none none q) (fun (t : Int32 × MM) => t.2.1 ≤ lim → WS X t.2 23 [(0, rf X.1 p0), (1, .int t.1)] [])) o) : WS X M 23 [(0, rf X.1 p0), (1, .int a1)] [] := by
  unfold z_X4_init_23 at h
  refine s_iload_n (pc := 23) O dX4_init_23 rfl 1 rfl ?_
  refine s_bipush (pc := 24) O (v := 9) dX4_init_24 (by decide) ?_
  refine s_icmp_ge (pc := 26) O (tgt := 48) dX4_init_26 (by decide) (fun c => ?_) (fun c => ?_)
  · have h := ifp c h
    obtain ⟨q0, hq0, ho0⟩ := mpi h; subst ho0; replace h := hq0
    refine s_iconst (pc := 48) O (v := 0) dX4_init_48 (by decide) ?_
    refine s_istore_n (pc := 49) O (loc' := [(1, .int 0), (0, rf X.1 p0)]) dX4_init_49 rfl (by decide) rfl ?_
    exact s_sub (pc := 50) O [1, 0] rfl (l_X4_init_50 O hi hn h hK)
  · have h := ifn c h
    refine s_aload_n (pc := 29) O dX4_init_29 rfl 0 rfl ?_
    obtain ⟨v1, e, h⟩ := bd h
    refine s_getR (pc := 30) O kc4 (k := 0) rfl tw_228 e dX4_init_30 ?_
    refine s_iload_n (pc := 33) O dX4_init_33 rfl 1 rfl ?_
    obtain ⟨M2, e, h⟩ := bd h
    refine s_new (pc := 34) O kc5 (by decide) tw_176 tw_180 tw_45 e dX4_init_34 ?_
    have hn : M2.1 ≤ lim := nObj_n e
    refine s_dup (pc := 37) O dX4_init_37 rfl ?_
    obtain ⟨M3, e, h⟩ := bd h
    obtain ⟨hg, h⟩ := gd h
    rw [← hg.1] at e
    refine s_callINv (pc := 38) O (As := []) (c_X5_init (G := X.1) e (by rw [hg.1]; omega)) cy_X5_init nw_3 tw_182 rfl (by decide) rfl (by rw [hg.1]; omega) (by rw [hg.1]; exact hg.2) rfl (Nat.le_of_ble_eq_true rfl) dX4_init_38 ?_
    have hn : M3.1 ≤ lim := by rw [hg.1]; exact hg.2
    obtain ⟨M4, e, h⟩ := bd h
    refine s_astR13 (pc := 41) O e dX4_init_41 ?_
    have hn : M4.1 ≤ lim := by rw [waR_n e]; exact hn
    refine s_iinc (pc := 42) O (v := (a1 + 1)) (loc' := [(1, .int (a1 + 1)), (0, rf X.1 p0)]) dX4_init_42 1 rfl rfl (by decide) rfl ?_
    refine s_goto (pc := 45) O (tgt := 23) dX4_init_45 (by decide) ?_
    cases h
    exact s_sub (pc := 23) O [1, 0] rfl (hK hn)
set_option maxHeartbeats 4000000 in
set_option maxRecDepth 100000 in
theorem l_X4_init_23 {X : CT} {lim : Nat} {M : MM} {p0 : Nat} {a1 : Int32} (O : OKX X cX4_init RX4 2 lim 2) (hi : isInit X) (hn : M.1 ≤ lim) {o : MM} {n : Nat} (h : lp (fun t => z_X4_init_23 lim t.2 p0 t.1) n (a1, M) = some o) (hK : (fun (q : MM) => RTX X none none q) o) : WS X M 23 [(0, rf X.1 p0), (1, .int a1)] [] := by
  refine lp_ind (P := fun (o : MM) (t : Int32 × MM) => t.2.1 ≤ lim → (fun (q : MM) => RTX X none none q) o → WS X t.2 23 [(0, rf X.1 p0), (1, .int t.1)] []) (fun t o hs hn hK => ?_) n (a1, M) o h hn hK
  rcases hs with h | ⟨u, h, hu⟩
  · exact b_X4_init_23 O hi hn h hK
  · exact b_X4_init_23 O hi hn h (show KI _ _ (.inr u) from fun hn => hu hn hK)
def f_X4_init (lim : Nat) (M : MM) (p0 : Nat) : Option (MM) :=
  if p0 < M.1 ∧ kd p0 = 4 then ((nArr M lim 13 9).bind fun M1 => (wfR M1 p0 4 0 M.1).bind fun M2 => (nArr M2 lim 12 4).bind fun M3 => (wfR M3 p0 4 1 M2.1).bind fun M4 => lp (fun t => z_X4_init_23 lim t.2 p0 t.1) FU (0, M4)) else none
theorem r_X4_init {lim : Nat} {M : MM} {p0 : Nat} {o : MM} (h : f_X4_init lim M p0 = some o) : p0 < M.1 ∧ kd p0 = 4 := by
  unfold f_X4_init at h
  exact (gd h).1
theorem cy_X4_init : CallY yX4_init cX4_init 2 (none) 0 := ⟨by decide +kernel, tw_174, tw_44, by decide⟩
set_option maxHeartbeats 4000000 in
set_option maxRecDepth 100000 in
theorem c_X4_init {G : GG} {M : MM} {p0 : Nat} {M' : MM} (h : f_X4_init M'.1 M p0 = some M') (hn : M.1 ≤ M'.1) : Ct G yX4_init cX4_init 2 (none) 2 [rf G p0] M (none) M' := by
  refine ct_of (by decide +kernel) (Nat.le_of_ble_eq_true rfl) (fun X hX O hK hi0 => ?_)
  subst hX
  obtain ⟨lim, hlim⟩ : ∃ z, z = M'.1 := ⟨_, rfl⟩
  rw [← hlim] at O hn h
  replace O : OKX X cX4_init RX4 2 lim 2 := O
  have hi : isInit X := hi0 rfl
  show WS X M 0 [(0, rf X.1 p0)] []
  unfold f_X4_init at h
  obtain ⟨hg0, h⟩ := gd h
  refine s_aload_n (pc := 0) O dX4_init_0 rfl 0 rfl ?_
  refine s_objInit (pc := 1) O tw_175 tw_60 tw_61 (by decide) (Nat.le_of_ble_eq_true rfl) dX4_init_1 ?_
  refine s_aload_n (pc := 4) O dX4_init_4 rfl 0 rfl ?_
  refine s_bipush (pc := 5) O (v := 9) dX4_init_5 (by decide) ?_
  obtain ⟨M1, e, h⟩ := bd h
  refine s_newq13 (pc := 7) O tw_176 (ln_small _) e dX4_init_7 ?_
  have hn : M1.1 ≤ lim := nArr_n e
  obtain ⟨M2, e, h⟩ := bd h
  refine s_putRF (pc := 10) O kc4 (k := 0) rfl (Or.inr ⟨_, rfl⟩) rfl hi rfl tw_228 e dX4_init_10 ?_
  have hn : M2.1 ≤ lim := by rw [wfR_n e]; exact hn
  refine s_aload_n (pc := 13) O dX4_init_13 rfl 0 rfl ?_
  refine s_iconst (pc := 14) O (v := 4) dX4_init_14 (by decide) ?_
  obtain ⟨M3, e, h⟩ := bd h
  refine s_newq12 (pc := 15) O tw_178 (ln_small _) e dX4_init_15 ?_
  have hn : M3.1 ≤ lim := nArr_n e
  obtain ⟨M4, e, h⟩ := bd h
  refine s_putRF (pc := 18) O kc4 (k := 1) rfl (Or.inr ⟨_, rfl⟩) rfl hi rfl tw_231 e dX4_init_18 ?_
  have hn : M4.1 ≤ lim := by rw [wfR_n e]; exact hn
  refine s_iconst (pc := 21) O (v := 0) dX4_init_21 (by decide) ?_
  refine s_istore_n (pc := 22) O (loc' := [(1, .int 0), (0, rf X.1 p0)]) dX4_init_22 rfl (by decide) rfl ?_
  exact s_sub (pc := 23) O [1, 0] rfl (l_X4_init_23 O hi hn h hK)

def f_X6_alphabet (M : MM) (p0 : Nat) (a1 : Int32) (a2 : Int32) : Option (Int32) :=
  if p0 < M.1 ∧ kd p0 = 6 then (if a1 < 1 then (some ((-1))) else (if (8 : Int32) < a1 then (some ((-1))) else (if a2 < 0 then (some ((-1))) else (if a2 ≤ 1 then ((fR M p0 6 1).bind fun v1 => (f_X1_bestSet M v1 a1).bind fun v2 => if a2 = 0 then (some v2) else ((fR M p0 6 1).bind fun v3 => (f_X1_countWithin M v3 v2).bind fun v4 => some v4)) else (some ((-1))))))) else none
theorem r_X6_alphabet {M : MM} {p0 : Nat} {a1 : Int32} {a2 : Int32} {o : Int32} (h : f_X6_alphabet M p0 a1 a2 = some o) : p0 < M.1 ∧ kd p0 = 6 := by
  unfold f_X6_alphabet at h
  exact (gd h).1
theorem cy_X6_alphabet : CallY yX6_alphabet cX6_alphabet 4 (some .int) 2 := ⟨by decide +kernel, tw_552, tw_40, by decide⟩
set_option maxHeartbeats 4000000 in
set_option maxRecDepth 100000 in
theorem c_X6_alphabet {G : GG} {M : MM} {p0 : Nat} {a1 : Int32} {a2 : Int32} {r : Int32} (h : f_X6_alphabet M p0 a1 a2 = some r) : Ct G yX6_alphabet cX6_alphabet 4 (some .int) 2 [rf G p0, .int a1, .int a2] M (some (.int r)) M := by
  refine ct_of (by decide +kernel) (Nat.le_of_ble_eq_true rfl) (fun X hX O hK hi0 => ?_)
  subst hX
  obtain ⟨lim, hlim⟩ : ∃ z, z = M.1 := ⟨_, rfl⟩
  rw [← hlim] at O
  replace O : OKX X cX6_alphabet RX6 2 lim 4 := O
  have hi : True := trivial
  have hn : M.1 ≤ lim := Nat.le_of_eq hlim.symm
  show WS X M 0 [(0, rf X.1 p0), (1, .int a1), (2, .int a2)] []
  unfold f_X6_alphabet at h
  obtain ⟨hg0, h⟩ := gd h
  refine s_iload_n (pc := 0) O dX6_alphabet_0 rfl 1 rfl ?_
  refine s_iconst (pc := 1) O (v := 1) dX6_alphabet_1 (by decide) ?_
  refine s_icmp_lt (pc := 2) O (tgt := 20) dX6_alphabet_2 (by decide) (fun c => ?_) (fun c => ?_)
  · have h := ifp c h
    refine s_iconst (pc := 20) O (v := (-1)) dX6_alphabet_20 (by decide) ?_
    cases h
    exact s_iret (pc := 21) O hK dX6_alphabet_21
  · have h := ifn c h
    refine s_iload_n (pc := 5) O dX6_alphabet_5 rfl 1 rfl ?_
    refine s_bipush (pc := 6) O (v := 8) dX6_alphabet_6 (by decide) ?_
    refine s_icmp_gt (pc := 8) O (tgt := 20) dX6_alphabet_8 (by decide) (fun c => ?_) (fun c => ?_)
    · have h := ifp c h
      refine s_iconst (pc := 20) O (v := (-1)) dX6_alphabet_20 (by decide) ?_
      cases h
      exact s_iret (pc := 21) O hK dX6_alphabet_21
    · have h := ifn c h
      refine s_iload_n (pc := 11) O dX6_alphabet_11 rfl 2 rfl ?_
      refine s_if_lt (pc := 12) O (tgt := 20) dX6_alphabet_12 (by decide) (fun c => ?_) (fun c => ?_)
      · have h := ifp c h
        refine s_iconst (pc := 20) O (v := (-1)) dX6_alphabet_20 (by decide) ?_
        cases h
        exact s_iret (pc := 21) O hK dX6_alphabet_21
      · have h := ifn c h
        refine s_iload_n (pc := 15) O dX6_alphabet_15 rfl 2 rfl ?_
        refine s_iconst (pc := 16) O (v := 1) dX6_alphabet_16 (by decide) ?_
        refine s_icmp_le (pc := 17) O (tgt := 22) dX6_alphabet_17 (by decide) (fun c => ?_) (fun c => ?_)
        · have h := ifp c h
          refine s_aload_n (pc := 22) O dX6_alphabet_22 rfl 0 rfl ?_
          obtain ⟨v1, e, h⟩ := bd h
          refine s_getR (pc := 23) O kc6 (k := 1) rfl tw_250 e dX6_alphabet_23 ?_
          refine s_iload_n (pc := 26) O dX6_alphabet_26 rfl 1 rfl ?_
          obtain ⟨v2, e, h⟩ := bd h
          refine s_callVi (pc := 27) O (As := [.int a1]) kc1 (c_X1_bestSet (G := X.1) e) cy_X1_bestSet tw_553 tw_554 tw_555 (by decide) rfl (Nat.le_refl _) hn (r_X1_bestSet e).1 (r_X1_bestSet e).2 rfl (Nat.le_of_ble_eq_true rfl) dX6_alphabet_27 ?_
          refine s_istore_n (pc := 30) O (loc' := [(3, .int v2), (0, rf X.1 p0), (1, .int a1), (2, .int a2)]) dX6_alphabet_30 rfl (by decide) rfl ?_
          refine s_iload_n (pc := 31) O dX6_alphabet_31 rfl 3 rfl ?_
          refine s_if_ne (pc := 32) O (tgt := 39) dX6_alphabet_32 (by decide) (fun c => ?_) (fun c => ?_)
          · have h := ifn c h
            refine s_aload_n (pc := 39) O dX6_alphabet_39 rfl 1 rfl ?_
            obtain ⟨v3, e, h⟩ := bd h
            refine s_getR (pc := 40) O kc6 (k := 1) rfl tw_250 e dX6_alphabet_40 ?_
            refine s_iload_n (pc := 43) O dX6_alphabet_43 rfl 0 rfl ?_
            obtain ⟨v4, e, h⟩ := bd h
            refine s_callVi (pc := 44) O (As := [.int v2]) kc1 (c_X1_countWithin (G := X.1) e) cy_X1_countWithin tw_567 tw_564 tw_565 (by decide) rfl (Nat.le_refl _) hn (r_X1_countWithin e).1 (r_X1_countWithin e).2 rfl (Nat.le_of_ble_eq_true rfl) dX6_alphabet_44 ?_
            cases h
            exact s_iret (pc := 47) O hK dX6_alphabet_47
          · have h := ifp c h
            refine s_iload_n (pc := 35) O dX6_alphabet_35 rfl 0 rfl ?_
            refine s_goto (pc := 36) O (tgt := 47) dX6_alphabet_36 (by decide) ?_
            cases h
            exact s_iret (pc := 47) O hK dX6_alphabet_47
        · have h := ifn c h
          refine s_iconst (pc := 20) O (v := (-1)) dX6_alphabet_20 (by decide) ?_
          cases h
          exact s_iret (pc := 21) O hK dX6_alphabet_21

def f_X6_asked (M : MM) (p0 : Nat) (a1 : Int32) (a2 : Int32) : Option (Int32) :=
  if p0 < M.1 ∧ kd p0 = 6 then ((fR M p0 6 1).bind fun v1 => (f_X1_canBeSaid M v1 a1).bind fun v2 => if v2 = 0 then (some ((-1))) else ((f_X6_isShape M p0 a2).bind fun v3 => if v3 = 0 then (some ((-1))) else ((fR M p0 6 1).bind fun v4 => (fR M p0 6 4).bind fun v5 => (fR M v5 4 1).bind fun v6 => (aR M v6 12 a2).bind fun v7 => (f_X2_row M v7).bind fun v8 => (f_X1_countAsked M v4 a1 v8).bind fun v9 => some v9))) else none
theorem r_X6_asked {M : MM} {p0 : Nat} {a1 : Int32} {a2 : Int32} {o : Int32} (h : f_X6_asked M p0 a1 a2 = some o) : p0 < M.1 ∧ kd p0 = 6 := by
  unfold f_X6_asked at h
  exact (gd h).1
theorem cy_X6_asked : CallY yX6_asked cX6_asked 3 (some .int) 2 := ⟨by decide +kernel, tw_571, tw_40, by decide⟩
set_option maxHeartbeats 4000000 in
set_option maxRecDepth 100000 in
theorem c_X6_asked {G : GG} {M : MM} {p0 : Nat} {a1 : Int32} {a2 : Int32} {r : Int32} (h : f_X6_asked M p0 a1 a2 = some r) : Ct G yX6_asked cX6_asked 3 (some .int) 2 [rf G p0, .int a1, .int a2] M (some (.int r)) M := by
  refine ct_of (by decide +kernel) (Nat.le_of_ble_eq_true rfl) (fun X hX O hK hi0 => ?_)
  subst hX
  obtain ⟨lim, hlim⟩ : ∃ z, z = M.1 := ⟨_, rfl⟩
  rw [← hlim] at O
  replace O : OKX X cX6_asked RX6 2 lim 3 := O
  have hi : True := trivial
  have hn : M.1 ≤ lim := Nat.le_of_eq hlim.symm
  show WS X M 0 [(0, rf X.1 p0), (1, .int a1), (2, .int a2)] []
  unfold f_X6_asked at h
  obtain ⟨hg0, h⟩ := gd h
  refine s_aload_n (pc := 0) O dX6_asked_0 rfl 0 rfl ?_
  obtain ⟨v1, e, h⟩ := bd h
  refine s_getR (pc := 1) O kc6 (k := 1) rfl tw_250 e dX6_asked_1 ?_
  refine s_iload_n (pc := 4) O dX6_asked_4 rfl 1 rfl ?_
  obtain ⟨v2, e, h⟩ := bd h
  refine s_callVi (pc := 5) O (As := [.int a1]) kc1 (c_X1_canBeSaid (G := X.1) e) cy_X1_canBeSaid tw_431 tw_432 tw_433 (by decide) rfl (Nat.le_refl _) hn (r_X1_canBeSaid e).1 (r_X1_canBeSaid e).2 rfl (Nat.le_of_ble_eq_true rfl) dX6_asked_5 ?_
  refine s_if_eq (pc := 8) O (tgt := 19) dX6_asked_8 (by decide) (fun c => ?_) (fun c => ?_)
  · have h := ifp c h
    refine s_iconst (pc := 19) O (v := (-1)) dX6_asked_19 (by decide) ?_
    cases h
    exact s_iret (pc := 20) O hK dX6_asked_20
  · have h := ifn c h
    refine s_aload_n (pc := 11) O dX6_asked_11 rfl 0 rfl ?_
    refine s_iload_n (pc := 12) O dX6_asked_12 rfl 2 rfl ?_
    obtain ⟨v3, e, h⟩ := bd h
    refine s_callVi (pc := 13) O (As := [.int a2]) kc6 (c_X6_isShape (G := X.1) e) cy_X6_isShape tw_423 tw_425 tw_9 (by decide) rfl (Nat.le_refl _) hn (r_X6_isShape e).1 (r_X6_isShape e).2 rfl (Nat.le_of_ble_eq_true rfl) dX6_asked_13 ?_
    refine s_if_ne (pc := 16) O (tgt := 21) dX6_asked_16 (by decide) (fun c => ?_) (fun c => ?_)
    · have h := ifn c h
      refine s_aload_n (pc := 21) O dX6_asked_21 rfl 0 rfl ?_
      obtain ⟨v4, e, h⟩ := bd h
      refine s_getR (pc := 22) O kc6 (k := 1) rfl tw_250 e dX6_asked_22 ?_
      refine s_iload_n (pc := 25) O dX6_asked_25 rfl 1 rfl ?_
      refine s_aload_n (pc := 26) O dX6_asked_26 rfl 0 rfl ?_
      obtain ⟨v5, e, h⟩ := bd h
      refine s_getR (pc := 27) O kc6 (k := 4) rfl tw_253 e dX6_asked_27 ?_
      obtain ⟨v6, e, h⟩ := bd h
      refine s_getR (pc := 30) O kc4 (k := 1) rfl tw_233 e dX6_asked_30 ?_
      refine s_iload_n (pc := 33) O dX6_asked_33 rfl 2 rfl ?_
      obtain ⟨v7, e, h⟩ := bd h
      refine s_aldR12 (pc := 34) O e dX6_asked_34 ?_
      obtain ⟨v8, e, h⟩ := bd h
      refine s_callVi (pc := 35) O (As := []) kc2 (c_X2_row (G := X.1) e) cy_X2_row tw_572 tw_398 tw_399 (by decide) rfl (Nat.le_refl _) hn (r_X2_row e).1 (r_X2_row e).2 rfl (Nat.le_of_ble_eq_true rfl) dX6_asked_35 ?_
      obtain ⟨v9, e, h⟩ := bd h
      refine s_callVi (pc := 38) O (As := [.int a1, .int v8]) kc1 (c_X1_countAsked (G := X.1) e) cy_X1_countAsked tw_573 tw_574 tw_575 (by decide) rfl (Nat.le_refl _) hn (r_X1_countAsked e).1 (r_X1_countAsked e).2 rfl (Nat.le_of_ble_eq_true rfl) dX6_asked_38 ?_
      cases h
      exact s_iret (pc := 41) O hK dX6_asked_41
    · have h := ifp c h
      refine s_iconst (pc := 19) O (v := (-1)) dX6_asked_19 (by decide) ?_
      cases h
      exact s_iret (pc := 20) O hK dX6_asked_20

def f_X6_rateInsult (M : MM) (p0 : Nat) (a1 : Int32) : Option (Int32 × MM) :=
  if p0 < M.1 ∧ kd p0 = 6 then ((fJ M p0 6 6).bind fun v1 => (wfJ M p0 6 6 ((v1 + 10000))).bind fun M2 => (f_X6_rateBill M2 p0 a1).bind fun v3 => if v3.2.1 = M2.1 then (some (((v3.1 + a1), v3.2))) else none) else none
theorem r_X6_rateInsult {M : MM} {p0 : Nat} {a1 : Int32} {o : Int32 × MM} (h : f_X6_rateInsult M p0 a1 = some o) : p0 < M.1 ∧ kd p0 = 6 := by
  unfold f_X6_rateInsult at h
  exact (gd h).1
theorem cy_X6_rateInsult : CallY yX6_rateInsult cX6_rateInsult 2 (some .int) 1 := ⟨by decide +kernel, tw_605, tw_40, by decide⟩
set_option maxHeartbeats 4000000 in
set_option maxRecDepth 100000 in
theorem c_X6_rateInsult {G : GG} {M : MM} {p0 : Nat} {a1 : Int32} {r : Int32} {M' : MM} (h : f_X6_rateInsult M p0 a1 = some (r, M')) (hn : M.1 ≤ M'.1) : Ct G yX6_rateInsult cX6_rateInsult 2 (some .int) 2 [rf G p0, .int a1] M (some (.int r)) M' := by
  refine ct_of (by decide +kernel) (Nat.le_of_ble_eq_true rfl) (fun X hX O hK hi0 => ?_)
  subst hX
  obtain ⟨lim, hlim⟩ : ∃ z, z = M'.1 := ⟨_, rfl⟩
  rw [← hlim] at O hn
  replace O : OKX X cX6_rateInsult RX6 2 lim 2 := O
  have hi : True := trivial
  show WS X M 0 [(0, rf X.1 p0), (1, .int a1)] []
  replace hK : (fun (q : Int32 × MM) => RTX X (some .int) (some (.int q.1)) q.2) (r, M') := hK
  generalize (r, M') = o at h hK
  unfold f_X6_rateInsult at h
  obtain ⟨hg0, h⟩ := gd h
  refine s_aload_n (pc := 0) O dX6_rateInsult_0 rfl 0 rfl ?_
  refine s_dup (pc := 1) O dX6_rateInsult_1 rfl ?_
  obtain ⟨v1, e, h⟩ := bd h
  refine s_getJ (pc := 2) O kc6 (k := 6) rfl tw_255 e dX6_rateInsult_2 ?_
  refine s_ldc2 (pc := 5) O dX6_rateInsult_5 tw_606 ?_
  refine s_ladd (pc := 8) O dX6_rateInsult_8 ?_
  obtain ⟨M2, e, h⟩ := bd h
  refine s_putJ (pc := 9) O kc6 (k := 6) rfl rfl rfl tw_255 e dX6_rateInsult_9 ?_
  have hn : M2.1 ≤ lim := by rw [wfJ_n e]; exact hn
  refine s_aload_n (pc := 12) O dX6_rateInsult_12 rfl 0 rfl ?_
  refine s_iload_n (pc := 13) O dX6_rateInsult_13 rfl 1 rfl ?_
  obtain ⟨v3, e, h⟩ := bd h
  obtain ⟨hg, h⟩ := gd h
  refine s_callVi (pc := 14) O (As := [.int a1]) kc6 (c_X6_rateBill (G := X.1) e (Nat.le_of_eq hg.symm)) cy_X6_rateBill tw_592 tw_594 tw_14 (by decide) rfl (Nat.le_of_eq hg.symm) (by rw [hg]; exact hn) (r_X6_rateBill e).1 (r_X6_rateBill e).2 rfl (Nat.le_of_ble_eq_true rfl) dX6_rateInsult_14 ?_
  have hn : v3.2.1 ≤ lim := by rw [hg]; exact hn
  refine s_iload_n (pc := 17) O dX6_rateInsult_17 rfl 1 rfl ?_
  refine s_iadd (pc := 18) O dX6_rateInsult_18 ?_
  cases h
  exact s_iret (pc := 19) O hK dX6_rateInsult_19

def f_X6_rateVerse (M : MM) (p0 : Nat) (a1 : Int32) : Option (Int32 × MM) :=
  if p0 < M.1 ∧ kd p0 = 6 then ((fJ M p0 6 6).bind fun v1 => (wfJ M p0 6 6 ((v1 + 1000))).bind fun M2 => (f_X6_rateVow M2 p0 a1).bind fun v3 => if v3.2.1 = M2.1 then (some (((2 * v3.1), v3.2))) else none) else none
theorem r_X6_rateVerse {M : MM} {p0 : Nat} {a1 : Int32} {o : Int32 × MM} (h : f_X6_rateVerse M p0 a1 = some o) : p0 < M.1 ∧ kd p0 = 6 := by
  unfold f_X6_rateVerse at h
  exact (gd h).1
theorem cy_X6_rateVerse : CallY yX6_rateVerse cX6_rateVerse 2 (some .int) 1 := ⟨by decide +kernel, tw_600, tw_40, by decide⟩
set_option maxHeartbeats 4000000 in
set_option maxRecDepth 100000 in
theorem c_X6_rateVerse {G : GG} {M : MM} {p0 : Nat} {a1 : Int32} {r : Int32} {M' : MM} (h : f_X6_rateVerse M p0 a1 = some (r, M')) (hn : M.1 ≤ M'.1) : Ct G yX6_rateVerse cX6_rateVerse 2 (some .int) 2 [rf G p0, .int a1] M (some (.int r)) M' := by
  refine ct_of (by decide +kernel) (Nat.le_of_ble_eq_true rfl) (fun X hX O hK hi0 => ?_)
  subst hX
  obtain ⟨lim, hlim⟩ : ∃ z, z = M'.1 := ⟨_, rfl⟩
  rw [← hlim] at O hn
  replace O : OKX X cX6_rateVerse RX6 2 lim 2 := O
  have hi : True := trivial
  show WS X M 0 [(0, rf X.1 p0), (1, .int a1)] []
  replace hK : (fun (q : Int32 × MM) => RTX X (some .int) (some (.int q.1)) q.2) (r, M') := hK
  generalize (r, M') = o at h hK
  unfold f_X6_rateVerse at h
  obtain ⟨hg0, h⟩ := gd h
  refine s_aload_n (pc := 0) O dX6_rateVerse_0 rfl 0 rfl ?_
  refine s_dup (pc := 1) O dX6_rateVerse_1 rfl ?_
  obtain ⟨v1, e, h⟩ := bd h
  refine s_getJ (pc := 2) O kc6 (k := 6) rfl tw_255 e dX6_rateVerse_2 ?_
  refine s_ldc2 (pc := 5) O dX6_rateVerse_5 tw_601 ?_
  refine s_ladd (pc := 8) O dX6_rateVerse_8 ?_
  obtain ⟨M2, e, h⟩ := bd h
  refine s_putJ (pc := 9) O kc6 (k := 6) rfl rfl rfl tw_255 e dX6_rateVerse_9 ?_
  have hn : M2.1 ≤ lim := by rw [wfJ_n e]; exact hn
  refine s_iconst (pc := 12) O (v := 2) dX6_rateVerse_12 (by decide) ?_
  refine s_aload_n (pc := 13) O dX6_rateVerse_13 rfl 0 rfl ?_
  refine s_iload_n (pc := 14) O dX6_rateVerse_14 rfl 1 rfl ?_
  obtain ⟨v3, e, h⟩ := bd h
  obtain ⟨hg, h⟩ := gd h
  refine s_callVi (pc := 15) O (As := [.int a1]) kc6 (c_X6_rateVow (G := X.1) e (Nat.le_of_eq hg.symm)) cy_X6_rateVow tw_587 tw_589 tw_13 (by decide) rfl (Nat.le_of_eq hg.symm) (by rw [hg]; exact hn) (r_X6_rateVow e).1 (r_X6_rateVow e).2 rfl (Nat.le_of_ble_eq_true rfl) dX6_rateVerse_15 ?_
  have hn : v3.2.1 ≤ lim := by rw [hg]; exact hn
  refine s_imul (pc := 18) O dX6_rateVerse_18 ?_
  cases h
  exact s_iret (pc := 19) O hK dX6_rateVerse_19

def f_X6_says (M : MM) (p0 : Nat) (a1 : Int32) : Option (Int32) :=
  if p0 < M.1 ∧ kd p0 = 6 then (if ((-2) : Int32) ≤ a1 then (if a1 = (-2) then ((fR M p0 6 1).bind fun v5 => (f_X1_mostOwn M v5).bind fun v6 => some v6) else (if a1 = (-1) then ((fR M p0 6 1).bind fun v3 => (fI M v3 1 9).bind fun v4 => some v4) else ((fR M p0 6 1).bind fun v1 => (f_X1_numberAt M v1 a1).bind fun v2 => some v2))) else (some ((-1)))) else none
theorem r_X6_says {M : MM} {p0 : Nat} {a1 : Int32} {o : Int32} (h : f_X6_says M p0 a1 = some o) : p0 < M.1 ∧ kd p0 = 6 := by
  unfold f_X6_says at h
  exact (gd h).1
theorem cy_X6_says : CallY yX6_says cX6_says 2 (some .int) 1 := ⟨by decide +kernel, tw_466, tw_40, by decide⟩
set_option maxHeartbeats 4000000 in
set_option maxRecDepth 100000 in
theorem c_X6_says {G : GG} {M : MM} {p0 : Nat} {a1 : Int32} {r : Int32} (h : f_X6_says M p0 a1 = some r) : Ct G yX6_says cX6_says 2 (some .int) 2 [rf G p0, .int a1] M (some (.int r)) M := by
  refine ct_of (by decide +kernel) (Nat.le_of_ble_eq_true rfl) (fun X hX O hK hi0 => ?_)
  subst hX
  obtain ⟨lim, hlim⟩ : ∃ z, z = M.1 := ⟨_, rfl⟩
  rw [← hlim] at O
  replace O : OKX X cX6_says RX6 2 lim 2 := O
  have hi : True := trivial
  have hn : M.1 ≤ lim := Nat.le_of_eq hlim.symm
  show WS X M 0 [(0, rf X.1 p0), (1, .int a1)] []
  unfold f_X6_says at h
  obtain ⟨hg0, h⟩ := gd h
  refine s_iload_n (pc := 0) O dX6_says_0 rfl 1 rfl ?_
  refine s_bipush (pc := 1) O (v := (-2)) dX6_says_1 (by decide) ?_
  refine s_icmp_ge (pc := 3) O (tgt := 8) dX6_says_3 (by decide) (fun c => ?_) (fun c => ?_)
  · have h := ifp c h
    refine s_iload_n (pc := 8) O dX6_says_8 rfl 1 rfl ?_
    refine s_bipush (pc := 9) O (v := (-2)) dX6_says_9 (by decide) ?_
    refine s_icmp_ne (pc := 11) O (tgt := 22) dX6_says_11 (by decide) (fun c => ?_) (fun c => ?_)
    · have h := ifn c h
      refine s_iload_n (pc := 22) O dX6_says_22 rfl 1 rfl ?_
      refine s_iconst (pc := 23) O (v := (-1)) dX6_says_23 (by decide) ?_
      refine s_icmp_ne (pc := 24) O (tgt := 37) dX6_says_24 (by decide) (fun c => ?_) (fun c => ?_)
      · have h := ifn c h
        refine s_aload_n (pc := 37) O dX6_says_37 rfl 0 rfl ?_
        obtain ⟨v1, e, h⟩ := bd h
        refine s_getR (pc := 38) O kc6 (k := 1) rfl tw_250 e dX6_says_38 ?_
        refine s_iload_n (pc := 41) O dX6_says_41 rfl 1 rfl ?_
        obtain ⟨v2, e, h⟩ := bd h
        refine s_callVi (pc := 42) O (As := [.int a1]) kc1 (c_X1_numberAt (G := X.1) e) cy_X1_numberAt tw_474 tw_475 tw_476 (by decide) rfl (Nat.le_refl _) hn (r_X1_numberAt e).1 (r_X1_numberAt e).2 rfl (Nat.le_of_ble_eq_true rfl) dX6_says_42 ?_
        cases h
        exact s_iret (pc := 45) O hK dX6_says_45
      · have h := ifp c h
        refine s_aload_n (pc := 27) O dX6_says_27 rfl 0 rfl ?_
        obtain ⟨v3, e, h⟩ := bd h
        refine s_getR (pc := 28) O kc6 (k := 1) rfl tw_250 e dX6_says_28 ?_
        obtain ⟨v4, e, h⟩ := bd h
        refine s_getI (pc := 31) O kc1 (k := 9) rfl tw_115 e dX6_says_31 ?_
        refine s_goto (pc := 34) O (tgt := 45) dX6_says_34 (by decide) ?_
        cases h
        exact s_iret (pc := 45) O hK dX6_says_45
    · have h := ifp c h
      refine s_aload_n (pc := 14) O dX6_says_14 rfl 0 rfl ?_
      obtain ⟨v5, e, h⟩ := bd h
      refine s_getR (pc := 15) O kc6 (k := 1) rfl tw_250 e dX6_says_15 ?_
      obtain ⟨v6, e, h⟩ := bd h
      refine s_callVi (pc := 18) O (As := []) kc1 (c_X1_mostOwn (G := X.1) e) cy_X1_mostOwn tw_467 tw_468 tw_469 (by decide) rfl (Nat.le_refl _) hn (r_X1_mostOwn e).1 (r_X1_mostOwn e).2 rfl (Nat.le_of_ble_eq_true rfl) dX6_says_18 ?_
      cases h
      exact s_iret (pc := 21) O hK dX6_says_21
  · have h := ifn c h
    refine s_iconst (pc := 6) O (v := (-1)) dX6_says_6 (by decide) ?_
    cases h
    exact s_iret (pc := 7) O hK dX6_says_7

def j_X1_countAnswers_27 (M : MM) (p0 : Nat) (a1 : Int32) (a2 : Int32) (a3 : Int32) (a4 : Int32) : Option ((Int32) ⊕ (Int32 × Int32)) :=
  some ((.inr (a3, (a4 + 1))))
set_option maxHeartbeats 4000000 in
set_option maxRecDepth 100000 in
theorem g_X1_countAnswers_27 {X : CT} {lim : Nat} {M : MM} {p0 : Nat} {a1 : Int32} {a2 : Int32} {a3 : Int32} {a4 : Int32} (O : OKX X cX1_countAnswers RX1 3 lim 5) (hi : True) (hn : M.1 ≤ lim) {o : (Int32) ⊕ (Int32 × Int32)} (h : j_X1_countAnswers_27 M p0 a1 a2 a3 a4 = some o) (hK : (KI (fun (q : Int32) => RTX X (some .int) (some (.int q)) M) (fun (t : Int32 × Int32) => WS X M 5 [(0, rf X.1 p0), (1, .int a1), (2, .int a2), (3, .int t.1), (4, .int t.2)] [])) o) : WS X M 27 [(0, rf X.1 p0), (1, .int a1), (2, .int a2), (3, .int a3), (4, .int a4)] [] := by
  unfold j_X1_countAnswers_27 at h
  refine s_iinc (pc := 27) O (v := (a4 + 1)) (loc' := [(4, .int (a4 + 1)), (0, rf X.1 p0), (1, .int a1), (2, .int a2), (3, .int a3)]) dX1_countAnswers_27 4 rfl rfl (by decide) rfl ?_
  refine s_goto (pc := 30) O (tgt := 5) dX1_countAnswers_30 (by decide) ?_
  cases h
  exact s_sub (pc := 5) O [1, 2, 3, 4, 0] rfl hK
def z_X1_countAnswers_5 (M : MM) (p0 : Nat) (a1 : Int32) (a2 : Int32) (a3 : Int32) (a4 : Int32) : Option ((Int32) ⊕ (Int32 × Int32)) :=
  if (1000 : Int32) ≤ a4 then (some ((.inl a3))) else ((f_X1_isNear M p0 a1 a4 a2).bind fun v1 => if v1 = 0 then (j_X1_countAnswers_27 M p0 a1 a2 a3 a4) else (j_X1_countAnswers_27 M p0 a1 a2 ((a3 + 1)) a4))
set_option maxHeartbeats 4000000 in
set_option maxRecDepth 100000 in
theorem b_X1_countAnswers_5 {X : CT} {lim : Nat} {M : MM} {p0 : Nat} {a1 : Int32} {a2 : Int32} {a3 : Int32} {a4 : Int32} (O : OKX X cX1_countAnswers RX1 3 lim 5) (hi : True) (hn : M.1 ≤ lim) {o : (Int32) ⊕ (Int32 × Int32)} (h : z_X1_countAnswers_5 M p0 a1 a2 a3 a4 = some o) (hK : (KI (fun (q : Int32) => RTX X (some .int) (some (.int q)) M) (fun (t : Int32 × Int32) => WS X M 5 [(0, rf X.1 p0), (1, .int a1), (2, .int a2), (3, .int t.1), (4, .int t.2)] [])) o) : WS X M 5 [(0, rf X.1 p0), (1, .int a1), (2, .int a2), (3, .int a3), (4, .int a4)] [] := by
  unfold z_X1_countAnswers_5 at h
  refine s_iload (pc := 5) O dX1_countAnswers_5 4 rfl ?_
  refine s_sipush (pc := 7) O (v := 1000) dX1_countAnswers_7 (by decide) ?_
  refine s_icmp_ge (pc := 10) O (tgt := 33) dX1_countAnswers_10 (by decide) (fun c => ?_) (fun c => ?_)
  · have h := ifp c h
    refine s_iload_n (pc := 33) O dX1_countAnswers_33 rfl 3 rfl ?_
    cases h
    exact s_iret (pc := 34) O hK dX1_countAnswers_34
  · have h := ifn c h
    refine s_aload_n (pc := 13) O dX1_countAnswers_13 rfl 0 rfl ?_
    refine s_iload_n (pc := 14) O dX1_countAnswers_14 rfl 1 rfl ?_
    refine s_iload (pc := 15) O dX1_countAnswers_15 4 rfl ?_
    refine s_iload_n (pc := 17) O dX1_countAnswers_17 rfl 2 rfl ?_
    obtain ⟨v1, e, h⟩ := bd h
    refine s_callVi (pc := 18) O (As := [.int a1, .int a4, .int a2]) kc1 (c_X1_isNear (G := X.1) e) cy_X1_isNear tw_489 tw_491 tw_10 (by decide) rfl (Nat.le_refl _) hn (r_X1_isNear e).1 (r_X1_isNear e).2 rfl (Nat.le_of_ble_eq_true rfl) dX1_countAnswers_18 ?_
    refine s_if_eq (pc := 21) O (tgt := 27) dX1_countAnswers_21 (by decide) (fun c => ?_) (fun c => ?_)
    · have h := ifp c h
      exact s_sub (pc := 27) O [0, 1, 2, 3, 4] rfl (g_X1_countAnswers_27 O hi hn h hK)
    · have h := ifn c h
      refine s_iinc (pc := 24) O (v := (a3 + 1)) (loc' := [(3, .int (a3 + 1)), (0, rf X.1 p0), (1, .int a1), (2, .int a2), (4, .int a4)]) dX1_countAnswers_24 3 rfl rfl (by decide) rfl ?_
      exact s_sub (pc := 27) O [1, 2, 3, 0, 4] rfl (g_X1_countAnswers_27 O hi hn h hK)
set_option maxHeartbeats 4000000 in
set_option maxRecDepth 100000 in
theorem l_X1_countAnswers_5 {X : CT} {lim : Nat} {M : MM} {p0 : Nat} {a1 : Int32} {a2 : Int32} {a3 : Int32} {a4 : Int32} (O : OKX X cX1_countAnswers RX1 3 lim 5) (hi : True) (hn : M.1 ≤ lim) {o : Int32} {n : Nat} (h : lp (fun t => z_X1_countAnswers_5 M p0 a1 a2 t.1 t.2) n (a3, a4) = some o) (hK : (fun (q : Int32) => RTX X (some .int) (some (.int q)) M) o) : WS X M 5 [(0, rf X.1 p0), (1, .int a1), (2, .int a2), (3, .int a3), (4, .int a4)] [] := by
  refine lp_ind (P := fun (o : Int32) (t : Int32 × Int32) => (fun (q : Int32) => RTX X (some .int) (some (.int q)) M) o → WS X M 5 [(0, rf X.1 p0), (1, .int a1), (2, .int a2), (3, .int t.1), (4, .int t.2)] []) (fun t o hs  hK => ?_) n (a3, a4) o h  hK
  rcases hs with h | ⟨u, h, hu⟩
  · exact b_X1_countAnswers_5 O hi hn h hK
  · exact b_X1_countAnswers_5 O hi hn h (show KI _ _ (.inr u) from hu hK)
def f_X1_countAnswers (M : MM) (p0 : Nat) (a1 : Int32) (a2 : Int32) : Option (Int32) :=
  if p0 < M.1 ∧ kd p0 = 1 then (lp (fun t => z_X1_countAnswers_5 M p0 a1 a2 t.1 t.2) FU (0, 1)) else none
theorem r_X1_countAnswers {M : MM} {p0 : Nat} {a1 : Int32} {a2 : Int32} {o : Int32} (h : f_X1_countAnswers M p0 a1 a2 = some o) : p0 < M.1 ∧ kd p0 = 1 := by
  unfold f_X1_countAnswers at h
  exact (gd h).1
theorem cy_X1_countAnswers : CallY yX1_countAnswers cX1_countAnswers 5 (some .int) 2 := ⟨by decide +kernel, tw_488, tw_42, by decide⟩
set_option maxHeartbeats 4000000 in
set_option maxRecDepth 100000 in
theorem c_X1_countAnswers {G : GG} {M : MM} {p0 : Nat} {a1 : Int32} {a2 : Int32} {r : Int32} (h : f_X1_countAnswers M p0 a1 a2 = some r) : Ct G yX1_countAnswers cX1_countAnswers 5 (some .int) 3 [rf G p0, .int a1, .int a2] M (some (.int r)) M := by
  refine ct_of (by decide +kernel) (Nat.le_of_ble_eq_true rfl) (fun X hX O hK hi0 => ?_)
  subst hX
  obtain ⟨lim, hlim⟩ : ∃ z, z = M.1 := ⟨_, rfl⟩
  rw [← hlim] at O
  replace O : OKX X cX1_countAnswers RX1 3 lim 5 := O
  have hi : True := trivial
  have hn : M.1 ≤ lim := Nat.le_of_eq hlim.symm
  show WS X M 0 [(0, rf X.1 p0), (1, .int a1), (2, .int a2)] []
  unfold f_X1_countAnswers at h
  obtain ⟨hg0, h⟩ := gd h
  refine s_iconst (pc := 0) O (v := 0) dX1_countAnswers_0 (by decide) ?_
  refine s_istore_n (pc := 1) O (loc' := [(3, .int 0), (0, rf X.1 p0), (1, .int a1), (2, .int a2)]) dX1_countAnswers_1 rfl (by decide) rfl ?_
  refine s_iconst (pc := 2) O (v := 1) dX1_countAnswers_2 (by decide) ?_
  refine s_istore (pc := 3) O (loc' := [(4, .int 1), (3, .int 0), (0, rf X.1 p0), (1, .int a1), (2, .int a2)]) dX1_countAnswers_3 (by decide) rfl ?_
  exact s_sub (pc := 5) O [2, 3, 4, 1, 0] rfl (l_X1_countAnswers_5 O hi hn h hK)

