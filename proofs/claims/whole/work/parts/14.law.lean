def j_L_law_871 (lim : Nat) (L : Nat) (xs : Nat → Int32) (M : MM) (p1 : Nat) (p2 : Nat) (a3 : Int32) : Option ((Int32 × MM) ⊕ (Int32 × MM)) :=
  some ((.inr ((a3 + 4), M)))
set_option maxHeartbeats 4000000 in
set_option maxRecDepth 100000 in
theorem g_L_law_871 {X : CT} {lim : Nat} {bs L : Nat} {xs : Nat → Int32} {M : MM} {p1 : Nat} {p2 : Nat} {a3 : Int32} (O : OKX X cL_law RL 12 lim 4) (hi : XSC X bs L xs) (hn : M.1 ≤ lim) {o : (Int32 × MM) ⊕ (Int32 × MM)} (h : j_L_law_871 lim L xs M p1 p2 a3 = some o) (hK : (KI (fun (q : Int32 × MM) => q.1 = 1 ∧ LWQ X) (fun (t : Int32 × MM) => t.2.1 ≤ lim → WS X t.2 18 [(0, .ref bs), (1, rf X.1 p1), (2, rf X.1 p2), (3, .int t.1)] [])) o) : WS X M 871 [(0, .ref bs), (1, rf X.1 p1), (2, rf X.1 p2), (3, .int a3)] [] := by
  unfold j_L_law_871 at h
  refine s_iinc (pc := 871) O (v := (a3 + 4)) (loc' := [(3, .int (a3 + 4)), (0, .ref bs), (1, rf X.1 p1), (2, rf X.1 p2)]) dL_law_871 3 rfl rfl (by decide) rfl ?_
  refine s_goto (pc := 874) O (tgt := 18) dL_law_874 (by decide) ?_
  cases h
  exact s_sub (pc := 18) O [1, 2, 3, 0] rfl (hK hn)
def z_L_law_18 (lim : Nat) (L : Nat) (xs : Nat → Int32) (M : MM) (p1 : Nat) (p2 : Nat) (a3 : Int32) : Option ((Int32 × MM) ⊕ (Int32 × MM)) :=
  if ((Int32.ofNat L) - 4) < a3 then (some ((.inl (1, M)))) else (if ¬ ((a3 : Int32) < 0 ∨ L ≤ (a3 : Int32).toNatClampNeg) then (if ((xs (a3 : Int32).toNatClampNeg) &&& 31) = 0 then (if ¬ (((a3 + 1) : Int32) < 0 ∨ L ≤ ((a3 + 1) : Int32).toNatClampNeg) then (if ¬ (((a3 + 2) : Int32) < 0 ∨ L ≤ ((a3 + 2) : Int32).toNatClampNeg) then (if ¬ (((a3 + 3) : Int32) < 0 ∨ L ≤ ((a3 + 3) : Int32).toNatClampNeg) then ((f_X6_type M p1 ((((((xs ((a3 + 1) : Int32).toNatClampNeg) : Int32).toInt64 : Int64) <<< ((32 : Int32).toInt64 &&& 63)) ||| (((xs ((a3 + 2) : Int32).toNatClampNeg) : Int32).toInt64 &&& 4294967295))) ((xs ((a3 + 3) : Int32).toNatClampNeg))).bind fun v1 => if v1.2.1 = M.1 then (if ¬ (((a3 + 1) : Int32) < 0 ∨ L ≤ ((a3 + 1) : Int32).toNatClampNeg) then (if ¬ (((a3 + 2) : Int32) < 0 ∨ L ≤ ((a3 + 2) : Int32).toNatClampNeg) then (if ¬ (((a3 + 3) : Int32) < 0 ∨ L ≤ ((a3 + 3) : Int32).toNatClampNeg) then ((f_X7_type v1.2 p2 ((((((xs ((a3 + 1) : Int32).toNatClampNeg) : Int32).toInt64 : Int64) <<< ((32 : Int32).toInt64 &&& 63)) ||| (((xs ((a3 + 2) : Int32).toNatClampNeg) : Int32).toInt64 &&& 4294967295))) ((xs ((a3 + 3) : Int32).toNatClampNeg))).bind fun v2 => if v2.2.1 = v1.2.1 then (if v1.1 = v2.1 then (j_L_law_871 lim L xs v2.2 p1 p2 a3) else (some ((.inl (0, v2.2))))) else none) else none) else none) else none) else none) else none) else none) else none) else (if ((xs (a3 : Int32).toNatClampNeg) &&& 31) = 1 then ((f_X6_clear M p1).bind fun v3 => if v3.2.1 = M.1 then ((f_X7_clear v3.2 p2).bind fun v4 => if v4.2.1 = v3.2.1 then (if v3.1 = v4.1 then (j_L_law_871 lim L xs v4.2 p1 p2 a3) else (some ((.inl (0, v4.2))))) else none) else none) else (if ((xs (a3 : Int32).toNatClampNeg) &&& 31) = 2 then ((f_X6_tongue M p1).bind fun v5 => if v5.2.1 = M.1 then ((f_X7_tongue v5.2 p2).bind fun v6 => if v6.2.1 = v5.2.1 then (if v5.1 = v6.1 then (j_L_law_871 lim L xs v6.2 p1 p2 a3) else (some ((.inl (0, v6.2))))) else none) else none) else (if ((xs (a3 : Int32).toNatClampNeg) &&& 31) = 3 then (if ¬ (((a3 + 1) : Int32) < 0 ∨ L ≤ ((a3 + 1) : Int32).toNatClampNeg) then (if ¬ (((a3 + 2) : Int32) < 0 ∨ L ≤ ((a3 + 2) : Int32).toNatClampNeg) then ((f_X6_word M p1 ((xs ((a3 + 1) : Int32).toNatClampNeg)) ((xs ((a3 + 2) : Int32).toNatClampNeg))).bind fun v7 => if ¬ (((a3 + 1) : Int32) < 0 ∨ L ≤ ((a3 + 1) : Int32).toNatClampNeg) then (if ¬ (((a3 + 2) : Int32) < 0 ∨ L ≤ ((a3 + 2) : Int32).toNatClampNeg) then ((f_X7_word M p2 ((xs ((a3 + 1) : Int32).toNatClampNeg)) ((xs ((a3 + 2) : Int32).toNatClampNeg))).bind fun v8 => if v7 = v8 then (j_L_law_871 lim L xs M p1 p2 a3) else (some ((.inl (0, M))))) else none) else none) else none) else none) else (if ((xs (a3 : Int32).toNatClampNeg) &&& 31) = 4 then (if ¬ (((a3 + 1) : Int32) < 0 ∨ L ≤ ((a3 + 1) : Int32).toNatClampNeg) then (if ¬ (((a3 + 2) : Int32) < 0 ∨ L ≤ ((a3 + 2) : Int32).toNatClampNeg) then ((f_X6_spell M p1 ((xs ((a3 + 1) : Int32).toNatClampNeg)) ((xs ((a3 + 2) : Int32).toNatClampNeg))).bind fun v9 => if ¬ (((a3 + 1) : Int32) < 0 ∨ L ≤ ((a3 + 1) : Int32).toNatClampNeg) then (if ¬ (((a3 + 2) : Int32) < 0 ∨ L ≤ ((a3 + 2) : Int32).toNatClampNeg) then ((f_X7_spell M p2 ((xs ((a3 + 1) : Int32).toNatClampNeg)) ((xs ((a3 + 2) : Int32).toNatClampNeg))).bind fun v10 => if v9 = v10 then (j_L_law_871 lim L xs M p1 p2 a3) else (some ((.inl (0, M))))) else none) else none) else none) else none) else (if ((xs (a3 : Int32).toNatClampNeg) &&& 31) = 5 then (if ¬ (((a3 + 1) : Int32) < 0 ∨ L ≤ ((a3 + 1) : Int32).toNatClampNeg) then (if ¬ (((a3 + 2) : Int32) < 0 ∨ L ≤ ((a3 + 2) : Int32).toNatClampNeg) then ((f_X6_shape M p1 ((xs ((a3 + 1) : Int32).toNatClampNeg)) ((xs ((a3 + 2) : Int32).toNatClampNeg))).bind fun v11 => if ¬ (((a3 + 1) : Int32) < 0 ∨ L ≤ ((a3 + 1) : Int32).toNatClampNeg) then (if ¬ (((a3 + 2) : Int32) < 0 ∨ L ≤ ((a3 + 2) : Int32).toNatClampNeg) then ((f_X7_shape M p2 ((xs ((a3 + 1) : Int32).toNatClampNeg)) ((xs ((a3 + 2) : Int32).toNatClampNeg))).bind fun v12 => if v11 = v12 then (j_L_law_871 lim L xs M p1 p2 a3) else (some ((.inl (0, M))))) else none) else none) else none) else none) else (if ((xs (a3 : Int32).toNatClampNeg) &&& 31) = 6 then (if ¬ (((a3 + 1) : Int32) < 0 ∨ L ≤ ((a3 + 1) : Int32).toNatClampNeg) then (if ¬ (((a3 + 2) : Int32) < 0 ∨ L ≤ ((a3 + 2) : Int32).toNatClampNeg) then ((f_X6_letter M p1 ((xs ((a3 + 1) : Int32).toNatClampNeg)) ((xs ((a3 + 2) : Int32).toNatClampNeg))).bind fun v13 => if ¬ (((a3 + 1) : Int32) < 0 ∨ L ≤ ((a3 + 1) : Int32).toNatClampNeg) then (if ¬ (((a3 + 2) : Int32) < 0 ∨ L ≤ ((a3 + 2) : Int32).toNatClampNeg) then ((f_X7_letter M p2 ((xs ((a3 + 1) : Int32).toNatClampNeg)) ((xs ((a3 + 2) : Int32).toNatClampNeg))).bind fun v14 => if v13 = v14 then (j_L_law_871 lim L xs M p1 p2 a3) else (some ((.inl (0, M))))) else none) else none) else none) else none) else (if ((xs (a3 : Int32).toNatClampNeg) &&& 31) = 7 then (if ¬ (((a3 + 1) : Int32) < 0 ∨ L ≤ ((a3 + 1) : Int32).toNatClampNeg) then (if ¬ (((a3 + 2) : Int32) < 0 ∨ L ≤ ((a3 + 2) : Int32).toNatClampNeg) then ((f_X6_has M p1 ((xs ((a3 + 1) : Int32).toNatClampNeg)) ((xs ((a3 + 2) : Int32).toNatClampNeg))).bind fun v15 => if ¬ (((a3 + 1) : Int32) < 0 ∨ L ≤ ((a3 + 1) : Int32).toNatClampNeg) then (if ¬ (((a3 + 2) : Int32) < 0 ∨ L ≤ ((a3 + 2) : Int32).toNatClampNeg) then ((f_X7_has M p2 ((xs ((a3 + 1) : Int32).toNatClampNeg)) ((xs ((a3 + 2) : Int32).toNatClampNeg))).bind fun v16 => if v15 = v16 then (j_L_law_871 lim L xs M p1 p2 a3) else (some ((.inl (0, M))))) else none) else none) else none) else none) else (if ((xs (a3 : Int32).toNatClampNeg) &&& 31) = 8 then (if ¬ (((a3 + 1) : Int32) < 0 ∨ L ≤ ((a3 + 1) : Int32).toNatClampNeg) then ((f_X6_write M p1 ((xs ((a3 + 1) : Int32).toNatClampNeg))).bind fun v17 => if v17.2.1 = M.1 then (if ¬ (((a3 + 1) : Int32) < 0 ∨ L ≤ ((a3 + 1) : Int32).toNatClampNeg) then ((f_X7_write v17.2 p2 ((xs ((a3 + 1) : Int32).toNatClampNeg))).bind fun v18 => if v18.2.1 = v17.2.1 then (if v17.1 = v18.1 then (j_L_law_871 lim L xs v18.2 p1 p2 a3) else (some ((.inl (0, v18.2))))) else none) else none) else none) else none) else (if ((xs (a3 : Int32).toNatClampNeg) &&& 31) = 9 then ((f_X6_undo M p1).bind fun v19 => if v19.2.1 = M.1 then ((f_X7_undo v19.2 p2).bind fun v20 => if v20.2.1 = v19.2.1 then (if v19.1 = v20.1 then (j_L_law_871 lim L xs v20.2 p1 p2 a3) else (some ((.inl (0, v20.2))))) else none) else none) else (if ((xs (a3 : Int32).toNatClampNeg) &&& 31) = 10 then (if ¬ (((a3 + 1) : Int32) < 0 ∨ L ≤ ((a3 + 1) : Int32).toNatClampNeg) then ((f_X6_wrote M p1 ((xs ((a3 + 1) : Int32).toNatClampNeg))).bind fun v21 => if ¬ (((a3 + 1) : Int32) < 0 ∨ L ≤ ((a3 + 1) : Int32).toNatClampNeg) then ((f_X7_wrote M p2 ((xs ((a3 + 1) : Int32).toNatClampNeg))).bind fun v22 => if v21 = v22 then (j_L_law_871 lim L xs M p1 p2 a3) else (some ((.inl (0, M))))) else none) else none) else (if ((xs (a3 : Int32).toNatClampNeg) &&& 31) = 11 then (if ¬ (((a3 + 1) : Int32) < 0 ∨ L ≤ ((a3 + 1) : Int32).toNatClampNeg) then ((f_X6_side M p1 ((xs ((a3 + 1) : Int32).toNatClampNeg))).bind fun v23 => if ¬ (((a3 + 1) : Int32) < 0 ∨ L ≤ ((a3 + 1) : Int32).toNatClampNeg) then ((f_X7_side M p2 ((xs ((a3 + 1) : Int32).toNatClampNeg))).bind fun v24 => if v23 = v24 then (j_L_law_871 lim L xs M p1 p2 a3) else (some ((.inl (0, M))))) else none) else none) else (if ((xs (a3 : Int32).toNatClampNeg) &&& 31) = 12 then (if ¬ (((a3 + 1) : Int32) < 0 ∨ L ≤ ((a3 + 1) : Int32).toNatClampNeg) then ((f_X6_says M p1 ((xs ((a3 + 1) : Int32).toNatClampNeg))).bind fun v25 => if ¬ (((a3 + 1) : Int32) < 0 ∨ L ≤ ((a3 + 1) : Int32).toNatClampNeg) then ((f_X7_says M p2 ((xs ((a3 + 1) : Int32).toNatClampNeg))).bind fun v26 => if v25 = v26 then (j_L_law_871 lim L xs M p1 p2 a3) else (some ((.inl (0, M))))) else none) else none) else (if ((xs (a3 : Int32).toNatClampNeg) &&& 31) = 13 then (if ¬ (((a3 + 1) : Int32) < 0 ∨ L ≤ ((a3 + 1) : Int32).toNatClampNeg) then (if ¬ (((a3 + 2) : Int32) < 0 ∨ L ≤ ((a3 + 2) : Int32).toNatClampNeg) then (if ¬ (((a3 + 3) : Int32) < 0 ∨ L ≤ ((a3 + 3) : Int32).toNatClampNeg) then ((f_X6_answers M p1 ((xs ((a3 + 1) : Int32).toNatClampNeg)) ((xs ((a3 + 2) : Int32).toNatClampNeg)) ((xs ((a3 + 3) : Int32).toNatClampNeg))).bind fun v27 => if ¬ (((a3 + 1) : Int32) < 0 ∨ L ≤ ((a3 + 1) : Int32).toNatClampNeg) then (if ¬ (((a3 + 2) : Int32) < 0 ∨ L ≤ ((a3 + 2) : Int32).toNatClampNeg) then (if ¬ (((a3 + 3) : Int32) < 0 ∨ L ≤ ((a3 + 3) : Int32).toNatClampNeg) then ((f_X7_answers M p2 ((xs ((a3 + 1) : Int32).toNatClampNeg)) ((xs ((a3 + 2) : Int32).toNatClampNeg)) ((xs ((a3 + 3) : Int32).toNatClampNeg))).bind fun v28 => if v27 = v28 then (j_L_law_871 lim L xs M p1 p2 a3) else (some ((.inl (0, M))))) else none) else none) else none) else none) else none) else none) else (if ((xs (a3 : Int32).toNatClampNeg) &&& 31) = 14 then (if ¬ (((a3 + 1) : Int32) < 0 ∨ L ≤ ((a3 + 1) : Int32).toNatClampNeg) then ((f_X6_mute M p1 ((xs ((a3 + 1) : Int32).toNatClampNeg))).bind fun v29 => if ¬ (((a3 + 1) : Int32) < 0 ∨ L ≤ ((a3 + 1) : Int32).toNatClampNeg) then ((f_X7_mute M p2 ((xs ((a3 + 1) : Int32).toNatClampNeg))).bind fun v30 => if v29 = v30 then (j_L_law_871 lim L xs M p1 p2 a3) else (some ((.inl (0, M))))) else none) else none) else (if ((xs (a3 : Int32).toNatClampNeg) &&& 31) = 15 then (if ¬ (((a3 + 1) : Int32) < 0 ∨ L ≤ ((a3 + 1) : Int32).toNatClampNeg) then ((f_X6_best M p1 ((xs ((a3 + 1) : Int32).toNatClampNeg))).bind fun v31 => if ¬ (((a3 + 1) : Int32) < 0 ∨ L ≤ ((a3 + 1) : Int32).toNatClampNeg) then ((f_X7_best M p2 ((xs ((a3 + 1) : Int32).toNatClampNeg))).bind fun v32 => if v31 = v32 then (j_L_law_871 lim L xs M p1 p2 a3) else (some ((.inl (0, M))))) else none) else none) else (if ((xs (a3 : Int32).toNatClampNeg) &&& 31) = 16 then (if ¬ (((a3 + 1) : Int32) < 0 ∨ L ≤ ((a3 + 1) : Int32).toNatClampNeg) then (if ¬ (((a3 + 2) : Int32) < 0 ∨ L ≤ ((a3 + 2) : Int32).toNatClampNeg) then ((f_X6_bar M p1 ((xs ((a3 + 1) : Int32).toNatClampNeg)) ((xs ((a3 + 2) : Int32).toNatClampNeg))).bind fun v33 => if ¬ (((a3 + 1) : Int32) < 0 ∨ L ≤ ((a3 + 1) : Int32).toNatClampNeg) then (if ¬ (((a3 + 2) : Int32) < 0 ∨ L ≤ ((a3 + 2) : Int32).toNatClampNeg) then ((f_X7_bar M p2 ((xs ((a3 + 1) : Int32).toNatClampNeg)) ((xs ((a3 + 2) : Int32).toNatClampNeg))).bind fun v34 => if v33 = v34 then (j_L_law_871 lim L xs M p1 p2 a3) else (some ((.inl (0, M))))) else none) else none) else none) else none) else (if ((xs (a3 : Int32).toNatClampNeg) &&& 31) = 17 then (if ¬ (((a3 + 1) : Int32) < 0 ∨ L ≤ ((a3 + 1) : Int32).toNatClampNeg) then (if ¬ (((a3 + 2) : Int32) < 0 ∨ L ≤ ((a3 + 2) : Int32).toNatClampNeg) then ((f_X6_chain M p1 ((xs ((a3 + 1) : Int32).toNatClampNeg)) ((xs ((a3 + 2) : Int32).toNatClampNeg))).bind fun v35 => if ¬ (((a3 + 1) : Int32) < 0 ∨ L ≤ ((a3 + 1) : Int32).toNatClampNeg) then (if ¬ (((a3 + 2) : Int32) < 0 ∨ L ≤ ((a3 + 2) : Int32).toNatClampNeg) then ((f_X7_chain M p2 ((xs ((a3 + 1) : Int32).toNatClampNeg)) ((xs ((a3 + 2) : Int32).toNatClampNeg))).bind fun v36 => if v36.2.1 = M.1 then (if v35 = v36.1 then (j_L_law_871 lim L xs v36.2 p1 p2 a3) else (some ((.inl (0, v36.2))))) else none) else none) else none) else none) else none) else (if ((xs (a3 : Int32).toNatClampNeg) &&& 31) = 18 then (if ¬ (((a3 + 1) : Int32) < 0 ∨ L ≤ ((a3 + 1) : Int32).toNatClampNeg) then ((f_X6_ring M p1 ((xs ((a3 + 1) : Int32).toNatClampNeg))).bind fun v37 => if ¬ (((a3 + 1) : Int32) < 0 ∨ L ≤ ((a3 + 1) : Int32).toNatClampNeg) then ((f_X7_ring M p2 ((xs ((a3 + 1) : Int32).toNatClampNeg))).bind fun v38 => if v38.2.1 = M.1 then (if v37 = v38.1 then (j_L_law_871 lim L xs v38.2 p1 p2 a3) else (some ((.inl (0, v38.2))))) else none) else none) else none) else (if ((xs (a3 : Int32).toNatClampNeg) &&& 31) = 19 then (if ¬ (((a3 + 1) : Int32) < 0 ∨ L ≤ ((a3 + 1) : Int32).toNatClampNeg) then (if ¬ (((a3 + 2) : Int32) < 0 ∨ L ≤ ((a3 + 2) : Int32).toNatClampNeg) then ((f_X6_alphabet M p1 ((xs ((a3 + 1) : Int32).toNatClampNeg)) ((xs ((a3 + 2) : Int32).toNatClampNeg))).bind fun v39 => if ¬ (((a3 + 1) : Int32) < 0 ∨ L ≤ ((a3 + 1) : Int32).toNatClampNeg) then (if ¬ (((a3 + 2) : Int32) < 0 ∨ L ≤ ((a3 + 2) : Int32).toNatClampNeg) then ((f_X7_alphabet M p2 ((xs ((a3 + 1) : Int32).toNatClampNeg)) ((xs ((a3 + 2) : Int32).toNatClampNeg))).bind fun v40 => if v39 = v40 then (j_L_law_871 lim L xs M p1 p2 a3) else (some ((.inl (0, M))))) else none) else none) else none) else none) else (if ((xs (a3 : Int32).toNatClampNeg) &&& 31) = 20 then (if ¬ (((a3 + 1) : Int32) < 0 ∨ L ≤ ((a3 + 1) : Int32).toNatClampNeg) then (if ¬ (((a3 + 2) : Int32) < 0 ∨ L ≤ ((a3 + 2) : Int32).toNatClampNeg) then ((f_X6_asked M p1 ((xs ((a3 + 1) : Int32).toNatClampNeg)) ((xs ((a3 + 2) : Int32).toNatClampNeg))).bind fun v41 => if ¬ (((a3 + 1) : Int32) < 0 ∨ L ≤ ((a3 + 1) : Int32).toNatClampNeg) then (if ¬ (((a3 + 2) : Int32) < 0 ∨ L ≤ ((a3 + 2) : Int32).toNatClampNeg) then ((f_X7_asked M p2 ((xs ((a3 + 1) : Int32).toNatClampNeg)) ((xs ((a3 + 2) : Int32).toNatClampNeg))).bind fun v42 => if v41 = v42 then (j_L_law_871 lim L xs M p1 p2 a3) else (some ((.inl (0, M))))) else none) else none) else none) else none) else (if ((xs (a3 : Int32).toNatClampNeg) &&& 31) = 21 then (if ¬ (((a3 + 1) : Int32) < 0 ∨ L ≤ ((a3 + 1) : Int32).toNatClampNeg) then (if ¬ (((a3 + 2) : Int32) < 0 ∨ L ≤ ((a3 + 2) : Int32).toNatClampNeg) then ((f_X6_rate M p1 ((xs ((a3 + 1) : Int32).toNatClampNeg)) ((xs ((a3 + 2) : Int32).toNatClampNeg))).bind fun v43 => if v43.2.1 = M.1 then (if ¬ (((a3 + 1) : Int32) < 0 ∨ L ≤ ((a3 + 1) : Int32).toNatClampNeg) then (if ¬ (((a3 + 2) : Int32) < 0 ∨ L ≤ ((a3 + 2) : Int32).toNatClampNeg) then ((f_X7_rate v43.2 p2 ((xs ((a3 + 1) : Int32).toNatClampNeg)) ((xs ((a3 + 2) : Int32).toNatClampNeg))).bind fun v44 => if v44.2.1 = v43.2.1 then (if v43.1 = v44.1 then (j_L_law_871 lim L xs v44.2 p1 p2 a3) else (some ((.inl (0, v44.2))))) else none) else none) else none) else none) else none) else none) else (if ((xs (a3 : Int32).toNatClampNeg) &&& 31) = 22 then (if ¬ (((a3 + 1) : Int32) < 0 ∨ L ≤ ((a3 + 1) : Int32).toNatClampNeg) then ((f_X6_keep M p1 ((xs ((a3 + 1) : Int32).toNatClampNeg))).bind fun v45 => if v45.2.1 = M.1 then (if ¬ (((a3 + 1) : Int32) < 0 ∨ L ≤ ((a3 + 1) : Int32).toNatClampNeg) then ((f_X7_keep v45.2 p2 ((xs ((a3 + 1) : Int32).toNatClampNeg))).bind fun v46 => if v46.2.1 = v45.2.1 then (if v45.1 = v46.1 then (j_L_law_871 lim L xs v46.2 p1 p2 a3) else (some ((.inl (0, v46.2))))) else none) else none) else none) else none) else (if ((xs (a3 : Int32).toNatClampNeg) &&& 31) = 23 then (if ¬ (((a3 + 1) : Int32) < 0 ∨ L ≤ ((a3 + 1) : Int32).toNatClampNeg) then ((f_X6_back M p1 ((xs ((a3 + 1) : Int32).toNatClampNeg))).bind fun v47 => if v47.2.1 = M.1 then (if ¬ (((a3 + 1) : Int32) < 0 ∨ L ≤ ((a3 + 1) : Int32).toNatClampNeg) then ((f_X7_back v47.2 p2 ((xs ((a3 + 1) : Int32).toNatClampNeg))).bind fun v48 => if v48.2.1 = v47.2.1 then (if v47.1 = v48.1 then (j_L_law_871 lim L xs v48.2 p1 p2 a3) else (some ((.inl (0, v48.2))))) else none) else none) else none) else none) else (if ((xs (a3 : Int32).toNatClampNeg) &&& 31) = 24 then (if ¬ (((a3 + 1) : Int32) < 0 ∨ L ≤ ((a3 + 1) : Int32).toNatClampNeg) then ((f_X6_count M p1 ((xs ((a3 + 1) : Int32).toNatClampNeg))).bind fun v49 => if ¬ (((a3 + 1) : Int32) < 0 ∨ L ≤ ((a3 + 1) : Int32).toNatClampNeg) then ((f_X7_count M p2 ((xs ((a3 + 1) : Int32).toNatClampNeg))).bind fun v50 => if v49 = v50 then (j_L_law_871 lim L xs M p1 p2 a3) else (some ((.inl (0, M))))) else none) else none) else (if ((xs (a3 : Int32).toNatClampNeg) &&& 31) = 25 then ((f_X6_trace M p1).bind fun v51 => (f_X7_trace M p2).bind fun v52 => if (lg_cmp v51 v52) = 0 then (j_L_law_871 lim L xs M p1 p2 a3) else (some ((.inl (0, M))))) else (j_L_law_871 lim L xs M p1 p2 a3))))))))))))))))))))))))))) else none)
set_option maxHeartbeats 4000000 in
set_option maxRecDepth 100000 in
theorem b_L_law_18 {X : CT} {lim : Nat} {bs L : Nat} {xs : Nat → Int32} {M : MM} {p1 : Nat} {p2 : Nat} {a3 : Int32} (O : OKX X cL_law RL 12 lim 4) (hi : XSC X bs L xs) (hn : M.1 ≤ lim) {o : (Int32 × MM) ⊕ (Int32 × MM)} (h : z_L_law_18 lim L xs M p1 p2 a3 = some o) (hK : (KI (fun (q : Int32 × MM) => q.1 = 1 ∧ LWQ X) (fun (t : Int32 × MM) => t.2.1 ≤ lim → WS X t.2 18 [(0, .ref bs), (1, rf X.1 p1), (2, rf X.1 p2), (3, .int t.1)] [])) o) : WS X M 18 [(0, .ref bs), (1, rf X.1 p1), (2, rf X.1 p2), (3, .int a3)] [] := by
  unfold z_L_law_18 at h
  refine s_iload_n (pc := 18) O dL_law_18 rfl 3 rfl ?_
  refine s_aload_nR (pc := 19) O dL_law_19 rfl 0 rfl ?_
  refine s_slen (pc := 20) O hi dL_law_20 ?_
  refine s_iconst (pc := 21) O (v := 4) dL_law_21 (by decide) ?_
  refine s_isub (pc := 22) O dL_law_22 ?_
  refine s_icmp_gt (pc := 23) O (tgt := 877) dL_law_23 (by decide) (fun c => ?_) (fun c => ?_)
  · have h := ifp c h
    refine s_iconst (pc := 877) O (v := 1) dL_law_877 (by decide) ?_
    cases h
    exact s_lawret (pc := 878) O hn hK.2 dL_law_878
  · have h := ifn c h
    refine s_aload_nR (pc := 26) O dL_law_26 rfl 0 rfl ?_
    refine s_iload_n (pc := 27) O dL_law_27 rfl 3 rfl ?_
    obtain ⟨hg, h⟩ := gd h
    refine s_sld (pc := 28) O hi hg dL_law_28 ?_
    refine s_bipush (pc := 29) O (v := 31) dL_law_29 (by decide) ?_
    refine s_iand (pc := 31) O dL_law_31 ?_
    generalize hx : (((xs (a3 : Int32).toNatClampNeg) &&& 31) : Int32) = x at h ⊢
    by_cases c0 : x = 0
    · have h := ifp c0 h
      subst c0
      refine s_tabIn (pc := 32) O (tgt := 152) dL_law_32 (by decide) (by decide) rfl (by decide) ?_
      refine s_aload_n (pc := 152) O dL_law_152 rfl 1 rfl ?_
      refine s_aload_nR (pc := 153) O dL_law_153 rfl 0 rfl ?_
      refine s_iload_n (pc := 154) O dL_law_154 rfl 3 rfl ?_
      refine s_iconst (pc := 155) O (v := 1) dL_law_155 (by decide) ?_
      refine s_iadd (pc := 156) O dL_law_156 ?_
      obtain ⟨hg, h⟩ := gd h
      refine s_sld (pc := 157) O hi hg dL_law_157 ?_
      refine s_i2l (pc := 158) O dL_law_158 ?_
      refine s_bipush (pc := 159) O (v := 32) dL_law_159 (by decide) ?_
      refine s_lshl (pc := 161) O dL_law_161 ?_
      refine s_aload_nR (pc := 162) O dL_law_162 rfl 0 rfl ?_
      refine s_iload_n (pc := 163) O dL_law_163 rfl 3 rfl ?_
      refine s_iconst (pc := 164) O (v := 2) dL_law_164 (by decide) ?_
      refine s_iadd (pc := 165) O dL_law_165 ?_
      obtain ⟨hg, h⟩ := gd h
      refine s_sld (pc := 166) O hi hg dL_law_166 ?_
      refine s_i2l (pc := 167) O dL_law_167 ?_
      refine s_ldc2 (pc := 168) O dL_law_168 tw_916 ?_
      refine s_land (pc := 171) O dL_law_171 ?_
      refine s_lor (pc := 172) O dL_law_172 ?_
      refine s_aload_nR (pc := 173) O dL_law_173 rfl 0 rfl ?_
      refine s_iload_n (pc := 174) O dL_law_174 rfl 3 rfl ?_
      refine s_iconst (pc := 175) O (v := 3) dL_law_175 (by decide) ?_
      refine s_iadd (pc := 176) O dL_law_176 ?_
      obtain ⟨hg, h⟩ := gd h
      refine s_sld (pc := 177) O hi hg dL_law_177 ?_
      obtain ⟨v1, e, h⟩ := bd h
      obtain ⟨hg, h⟩ := gd h
      refine s_callVi (pc := 178) O (As := [.long (((((xs ((a3 + 1) : Int32).toNatClampNeg) : Int32).toInt64 : Int64) <<< ((32 : Int32).toInt64 &&& 63)) ||| (((xs ((a3 + 2) : Int32).toNatClampNeg) : Int32).toInt64 &&& 4294967295)), .int (xs ((a3 + 3) : Int32).toNatClampNeg)]) kc6 (c_X6_type (G := X.1) e (Nat.le_of_eq hg.symm)) cy_X6_type tw_271 tw_272 tw_273 (by decide) rfl (Nat.le_of_eq hg.symm) (by rw [hg]; exact hn) (r_X6_type e).1 (r_X6_type e).2 rfl (Nat.le_of_ble_eq_true rfl) dL_law_178 ?_
      have hn : v1.2.1 ≤ lim := by rw [hg]; exact hn
      refine s_aload_n (pc := 181) O dL_law_181 rfl 2 rfl ?_
      refine s_aload_nR (pc := 182) O dL_law_182 rfl 0 rfl ?_
      refine s_iload_n (pc := 183) O dL_law_183 rfl 3 rfl ?_
      refine s_iconst (pc := 184) O (v := 1) dL_law_184 (by decide) ?_
      refine s_iadd (pc := 185) O dL_law_185 ?_
      obtain ⟨hg, h⟩ := gd h
      refine s_sld (pc := 186) O hi hg dL_law_186 ?_
      refine s_i2l (pc := 187) O dL_law_187 ?_
      refine s_bipush (pc := 188) O (v := 32) dL_law_188 (by decide) ?_
      refine s_lshl (pc := 190) O dL_law_190 ?_
      refine s_aload_nR (pc := 191) O dL_law_191 rfl 0 rfl ?_
      refine s_iload_n (pc := 192) O dL_law_192 rfl 3 rfl ?_
      refine s_iconst (pc := 193) O (v := 2) dL_law_193 (by decide) ?_
      refine s_iadd (pc := 194) O dL_law_194 ?_
      obtain ⟨hg, h⟩ := gd h
      refine s_sld (pc := 195) O hi hg dL_law_195 ?_
      refine s_i2l (pc := 196) O dL_law_196 ?_
      refine s_ldc2 (pc := 197) O dL_law_197 tw_916 ?_
      refine s_land (pc := 200) O dL_law_200 ?_
      refine s_lor (pc := 201) O dL_law_201 ?_
      refine s_aload_nR (pc := 202) O dL_law_202 rfl 0 rfl ?_
      refine s_iload_n (pc := 203) O dL_law_203 rfl 3 rfl ?_
      refine s_iconst (pc := 204) O (v := 3) dL_law_204 (by decide) ?_
      refine s_iadd (pc := 205) O dL_law_205 ?_
      obtain ⟨hg, h⟩ := gd h
      refine s_sld (pc := 206) O hi hg dL_law_206 ?_
      obtain ⟨v2, e, h⟩ := bd h
      obtain ⟨hg, h⟩ := gd h
      refine s_callVi (pc := 207) O (As := [.long (((((xs ((a3 + 1) : Int32).toNatClampNeg) : Int32).toInt64 : Int64) <<< ((32 : Int32).toInt64 &&& 63)) ||| (((xs ((a3 + 2) : Int32).toNatClampNeg) : Int32).toInt64 &&& 4294967295)), .int (xs ((a3 + 3) : Int32).toNatClampNeg)]) kc7 (c_X7_type (G := X.1) e (Nat.le_of_eq hg.symm)) cy_X7_type tw_726 tw_727 tw_728 (by decide) rfl (Nat.le_of_eq hg.symm) (by rw [hg]; exact hn) (r_X7_type e).1 (r_X7_type e).2 rfl (Nat.le_of_ble_eq_true rfl) dL_law_207 ?_
      have hn : v2.2.1 ≤ lim := by rw [hg]; exact hn
      refine s_icmp_eq (pc := 210) O (tgt := 871) dL_law_210 (by decide) (fun c => ?_) (fun c => ?_)
      · have h := ifp c h
        exact s_sub (pc := 871) O [0, 1, 2, 3] rfl (g_L_law_871 O hi hn h hK)
      · have h := ifn c h
        refine s_iconst (pc := 213) O (v := 0) dL_law_213 (by decide) ?_
        cases h
        exact absurd (show (0 : Int32) = 1 from hK.1) (by decide)
    have h := ifn c0 h
    by_cases c1 : x = 1
    · have h := ifp c1 h
      subst c1
      refine s_tabIn (pc := 32) O (tgt := 215) dL_law_32 (by decide) (by decide) rfl (by decide) ?_
      refine s_aload_n (pc := 215) O dL_law_215 rfl 1 rfl ?_
      obtain ⟨v3, e, h⟩ := bd h
      obtain ⟨hg, h⟩ := gd h
      refine s_callVi (pc := 216) O (As := []) kc6 (c_X6_clear (G := X.1) e (Nat.le_of_eq hg.symm)) cy_X6_clear tw_279 tw_280 tw_281 (by decide) rfl (Nat.le_of_eq hg.symm) (by rw [hg]; exact hn) (r_X6_clear e).1 (r_X6_clear e).2 rfl (Nat.le_of_ble_eq_true rfl) dL_law_216 ?_
      have hn : v3.2.1 ≤ lim := by rw [hg]; exact hn
      refine s_aload_n (pc := 219) O dL_law_219 rfl 2 rfl ?_
      obtain ⟨v4, e, h⟩ := bd h
      obtain ⟨hg, h⟩ := gd h
      refine s_callVi (pc := 220) O (As := []) kc7 (c_X7_clear (G := X.1) e (Nat.le_of_eq hg.symm)) cy_X7_clear tw_731 tw_732 tw_733 (by decide) rfl (Nat.le_of_eq hg.symm) (by rw [hg]; exact hn) (r_X7_clear e).1 (r_X7_clear e).2 rfl (Nat.le_of_ble_eq_true rfl) dL_law_220 ?_
      have hn : v4.2.1 ≤ lim := by rw [hg]; exact hn
      refine s_icmp_eq (pc := 223) O (tgt := 871) dL_law_223 (by decide) (fun c => ?_) (fun c => ?_)
      · have h := ifp c h
        exact s_sub (pc := 871) O [0, 1, 2, 3] rfl (g_L_law_871 O hi hn h hK)
      · have h := ifn c h
        refine s_iconst (pc := 226) O (v := 0) dL_law_226 (by decide) ?_
        cases h
        exact absurd (show (0 : Int32) = 1 from hK.1) (by decide)
    have h := ifn c1 h
    by_cases c2 : x = 2
    · have h := ifp c2 h
      subst c2
      refine s_tabIn (pc := 32) O (tgt := 228) dL_law_32 (by decide) (by decide) rfl (by decide) ?_
      refine s_aload_n (pc := 228) O dL_law_228 rfl 1 rfl ?_
      obtain ⟨v5, e, h⟩ := bd h
      obtain ⟨hg, h⟩ := gd h
      refine s_callVi (pc := 229) O (As := []) kc6 (c_X6_tongue (G := X.1) e (Nat.le_of_eq hg.symm)) cy_X6_tongue tw_283 tw_284 tw_285 (by decide) rfl (Nat.le_of_eq hg.symm) (by rw [hg]; exact hn) (r_X6_tongue e).1 (r_X6_tongue e).2 rfl (Nat.le_of_ble_eq_true rfl) dL_law_229 ?_
      have hn : v5.2.1 ≤ lim := by rw [hg]; exact hn
      refine s_aload_n (pc := 232) O dL_law_232 rfl 2 rfl ?_
      obtain ⟨v6, e, h⟩ := bd h
      obtain ⟨hg, h⟩ := gd h
      refine s_callVi (pc := 233) O (As := []) kc7 (c_X7_tongue (G := X.1) e (Nat.le_of_eq hg.symm)) cy_X7_tongue tw_735 tw_736 tw_737 (by decide) rfl (Nat.le_of_eq hg.symm) (by rw [hg]; exact hn) (r_X7_tongue e).1 (r_X7_tongue e).2 rfl (Nat.le_of_ble_eq_true rfl) dL_law_233 ?_
      have hn : v6.2.1 ≤ lim := by rw [hg]; exact hn
      refine s_icmp_eq (pc := 236) O (tgt := 871) dL_law_236 (by decide) (fun c => ?_) (fun c => ?_)
      · have h := ifp c h
        exact s_sub (pc := 871) O [0, 1, 2, 3] rfl (g_L_law_871 O hi hn h hK)
      · have h := ifn c h
        refine s_iconst (pc := 239) O (v := 0) dL_law_239 (by decide) ?_
        cases h
        exact absurd (show (0 : Int32) = 1 from hK.1) (by decide)
    have h := ifn c2 h
    by_cases c3 : x = 3
    · have h := ifp c3 h
      subst c3
      refine s_tabIn (pc := 32) O (tgt := 241) dL_law_32 (by decide) (by decide) rfl (by decide) ?_
      refine s_aload_n (pc := 241) O dL_law_241 rfl 1 rfl ?_
      refine s_aload_nR (pc := 242) O dL_law_242 rfl 0 rfl ?_
      refine s_iload_n (pc := 243) O dL_law_243 rfl 3 rfl ?_
      refine s_iconst (pc := 244) O (v := 1) dL_law_244 (by decide) ?_
      refine s_iadd (pc := 245) O dL_law_245 ?_
      obtain ⟨hg, h⟩ := gd h
      refine s_sld (pc := 246) O hi hg dL_law_246 ?_
      refine s_aload_nR (pc := 247) O dL_law_247 rfl 0 rfl ?_
      refine s_iload_n (pc := 248) O dL_law_248 rfl 3 rfl ?_
      refine s_iconst (pc := 249) O (v := 2) dL_law_249 (by decide) ?_
      refine s_iadd (pc := 250) O dL_law_250 ?_
      obtain ⟨hg, h⟩ := gd h
      refine s_sld (pc := 251) O hi hg dL_law_251 ?_
      obtain ⟨v7, e, h⟩ := bd h
      refine s_callVi (pc := 252) O (As := [.int (xs ((a3 + 1) : Int32).toNatClampNeg), .int (xs ((a3 + 2) : Int32).toNatClampNeg)]) kc6 (c_X6_word (G := X.1) e) cy_X6_word tw_407 tw_408 tw_409 (by decide) rfl (Nat.le_refl _) hn (r_X6_word e).1 (r_X6_word e).2 rfl (Nat.le_of_ble_eq_true rfl) dL_law_252 ?_
      refine s_aload_n (pc := 255) O dL_law_255 rfl 2 rfl ?_
      refine s_aload_nR (pc := 256) O dL_law_256 rfl 0 rfl ?_
      refine s_iload_n (pc := 257) O dL_law_257 rfl 3 rfl ?_
      refine s_iconst (pc := 258) O (v := 1) dL_law_258 (by decide) ?_
      refine s_iadd (pc := 259) O dL_law_259 ?_
      obtain ⟨hg, h⟩ := gd h
      refine s_sld (pc := 260) O hi hg dL_law_260 ?_
      refine s_aload_nR (pc := 261) O dL_law_261 rfl 0 rfl ?_
      refine s_iload_n (pc := 262) O dL_law_262 rfl 3 rfl ?_
      refine s_iconst (pc := 263) O (v := 2) dL_law_263 (by decide) ?_
      refine s_iadd (pc := 264) O dL_law_264 ?_
      obtain ⟨hg, h⟩ := gd h
      refine s_sld (pc := 265) O hi hg dL_law_265 ?_
      obtain ⟨v8, e, h⟩ := bd h
      refine s_callVi (pc := 266) O (As := [.int (xs ((a3 + 1) : Int32).toNatClampNeg), .int (xs ((a3 + 2) : Int32).toNatClampNeg)]) kc7 (c_X7_word (G := X.1) e) cy_X7_word tw_781 tw_782 tw_783 (by decide) rfl (Nat.le_refl _) hn (r_X7_word e).1 (r_X7_word e).2 rfl (Nat.le_of_ble_eq_true rfl) dL_law_266 ?_
      refine s_icmp_eq (pc := 269) O (tgt := 871) dL_law_269 (by decide) (fun c => ?_) (fun c => ?_)
      · have h := ifp c h
        exact s_sub (pc := 871) O [0, 1, 2, 3] rfl (g_L_law_871 O hi hn h hK)
      · have h := ifn c h
        refine s_iconst (pc := 272) O (v := 0) dL_law_272 (by decide) ?_
        cases h
        exact absurd (show (0 : Int32) = 1 from hK.1) (by decide)
    have h := ifn c3 h
    by_cases c4 : x = 4
    · have h := ifp c4 h
      subst c4
      refine s_tabIn (pc := 32) O (tgt := 274) dL_law_32 (by decide) (by decide) rfl (by decide) ?_
      refine s_aload_n (pc := 274) O dL_law_274 rfl 1 rfl ?_
      refine s_aload_nR (pc := 275) O dL_law_275 rfl 0 rfl ?_
      refine s_iload_n (pc := 276) O dL_law_276 rfl 3 rfl ?_
      refine s_iconst (pc := 277) O (v := 1) dL_law_277 (by decide) ?_
      refine s_iadd (pc := 278) O dL_law_278 ?_
      obtain ⟨hg, h⟩ := gd h
      refine s_sld (pc := 279) O hi hg dL_law_279 ?_
      refine s_aload_nR (pc := 280) O dL_law_280 rfl 0 rfl ?_
      refine s_iload_n (pc := 281) O dL_law_281 rfl 3 rfl ?_
      refine s_iconst (pc := 282) O (v := 2) dL_law_282 (by decide) ?_
      refine s_iadd (pc := 283) O dL_law_283 ?_
      obtain ⟨hg, h⟩ := gd h
      refine s_sld (pc := 284) O hi hg dL_law_284 ?_
      obtain ⟨v9, e, h⟩ := bd h
      refine s_callVi (pc := 285) O (As := [.int (xs ((a3 + 1) : Int32).toNatClampNeg), .int (xs ((a3 + 2) : Int32).toNatClampNeg)]) kc6 (c_X6_spell (G := X.1) e) cy_X6_spell tw_415 tw_416 tw_417 (by decide) rfl (Nat.le_refl _) hn (r_X6_spell e).1 (r_X6_spell e).2 rfl (Nat.le_of_ble_eq_true rfl) dL_law_285 ?_
      refine s_aload_n (pc := 288) O dL_law_288 rfl 2 rfl ?_
      refine s_aload_nR (pc := 289) O dL_law_289 rfl 0 rfl ?_
      refine s_iload_n (pc := 290) O dL_law_290 rfl 3 rfl ?_
      refine s_iconst (pc := 291) O (v := 1) dL_law_291 (by decide) ?_
      refine s_iadd (pc := 292) O dL_law_292 ?_
      obtain ⟨hg, h⟩ := gd h
      refine s_sld (pc := 293) O hi hg dL_law_293 ?_
      refine s_aload_nR (pc := 294) O dL_law_294 rfl 0 rfl ?_
      refine s_iload_n (pc := 295) O dL_law_295 rfl 3 rfl ?_
      refine s_iconst (pc := 296) O (v := 2) dL_law_296 (by decide) ?_
      refine s_iadd (pc := 297) O dL_law_297 ?_
      obtain ⟨hg, h⟩ := gd h
      refine s_sld (pc := 298) O hi hg dL_law_298 ?_
      obtain ⟨v10, e, h⟩ := bd h
      refine s_callVi (pc := 299) O (As := [.int (xs ((a3 + 1) : Int32).toNatClampNeg), .int (xs ((a3 + 2) : Int32).toNatClampNeg)]) kc7 (c_X7_spell (G := X.1) e) cy_X7_spell tw_785 tw_786 tw_787 (by decide) rfl (Nat.le_refl _) hn (r_X7_spell e).1 (r_X7_spell e).2 rfl (Nat.le_of_ble_eq_true rfl) dL_law_299 ?_
      refine s_icmp_eq (pc := 302) O (tgt := 871) dL_law_302 (by decide) (fun c => ?_) (fun c => ?_)
      · have h := ifp c h
        exact s_sub (pc := 871) O [0, 1, 2, 3] rfl (g_L_law_871 O hi hn h hK)
      · have h := ifn c h
        refine s_iconst (pc := 305) O (v := 0) dL_law_305 (by decide) ?_
        cases h
        exact absurd (show (0 : Int32) = 1 from hK.1) (by decide)
    have h := ifn c4 h
    by_cases c5 : x = 5
    · have h := ifp c5 h
      subst c5
      refine s_tabIn (pc := 32) O (tgt := 307) dL_law_32 (by decide) (by decide) rfl (by decide) ?_
      refine s_aload_n (pc := 307) O dL_law_307 rfl 1 rfl ?_
      refine s_aload_nR (pc := 308) O dL_law_308 rfl 0 rfl ?_
      refine s_iload_n (pc := 309) O dL_law_309 rfl 3 rfl ?_
      refine s_iconst (pc := 310) O (v := 1) dL_law_310 (by decide) ?_
      refine s_iadd (pc := 311) O dL_law_311 ?_
      obtain ⟨hg, h⟩ := gd h
      refine s_sld (pc := 312) O hi hg dL_law_312 ?_
      refine s_aload_nR (pc := 313) O dL_law_313 rfl 0 rfl ?_
      refine s_iload_n (pc := 314) O dL_law_314 rfl 3 rfl ?_
      refine s_iconst (pc := 315) O (v := 2) dL_law_315 (by decide) ?_
      refine s_iadd (pc := 316) O dL_law_316 ?_
      obtain ⟨hg, h⟩ := gd h
      refine s_sld (pc := 317) O hi hg dL_law_317 ?_
      obtain ⟨v11, e, h⟩ := bd h
      refine s_callVi (pc := 318) O (As := [.int (xs ((a3 + 1) : Int32).toNatClampNeg), .int (xs ((a3 + 2) : Int32).toNatClampNeg)]) kc6 (c_X6_shape (G := X.1) e) cy_X6_shape tw_419 tw_420 tw_421 (by decide) rfl (Nat.le_refl _) hn (r_X6_shape e).1 (r_X6_shape e).2 rfl (Nat.le_of_ble_eq_true rfl) dL_law_318 ?_
      refine s_aload_n (pc := 321) O dL_law_321 rfl 2 rfl ?_
      refine s_aload_nR (pc := 322) O dL_law_322 rfl 0 rfl ?_
      refine s_iload_n (pc := 323) O dL_law_323 rfl 3 rfl ?_
      refine s_iconst (pc := 324) O (v := 1) dL_law_324 (by decide) ?_
      refine s_iadd (pc := 325) O dL_law_325 ?_
      obtain ⟨hg, h⟩ := gd h
      refine s_sld (pc := 326) O hi hg dL_law_326 ?_
      refine s_aload_nR (pc := 327) O dL_law_327 rfl 0 rfl ?_
      refine s_iload_n (pc := 328) O dL_law_328 rfl 3 rfl ?_
      refine s_iconst (pc := 329) O (v := 2) dL_law_329 (by decide) ?_
      refine s_iadd (pc := 330) O dL_law_330 ?_
      obtain ⟨hg, h⟩ := gd h
      refine s_sld (pc := 331) O hi hg dL_law_331 ?_
      obtain ⟨v12, e, h⟩ := bd h
      refine s_callVi (pc := 332) O (As := [.int (xs ((a3 + 1) : Int32).toNatClampNeg), .int (xs ((a3 + 2) : Int32).toNatClampNeg)]) kc7 (c_X7_shape (G := X.1) e) cy_X7_shape tw_789 tw_790 tw_791 (by decide) rfl (Nat.le_refl _) hn (r_X7_shape e).1 (r_X7_shape e).2 rfl (Nat.le_of_ble_eq_true rfl) dL_law_332 ?_
      refine s_icmp_eq (pc := 335) O (tgt := 871) dL_law_335 (by decide) (fun c => ?_) (fun c => ?_)
      · have h := ifp c h
        exact s_sub (pc := 871) O [0, 1, 2, 3] rfl (g_L_law_871 O hi hn h hK)
      · have h := ifn c h
        refine s_iconst (pc := 338) O (v := 0) dL_law_338 (by decide) ?_
        cases h
        exact absurd (show (0 : Int32) = 1 from hK.1) (by decide)
    have h := ifn c5 h
    by_cases c6 : x = 6
    · have h := ifp c6 h
      subst c6
      refine s_tabIn (pc := 32) O (tgt := 340) dL_law_32 (by decide) (by decide) rfl (by decide) ?_
      refine s_aload_n (pc := 340) O dL_law_340 rfl 1 rfl ?_
      refine s_aload_nR (pc := 341) O dL_law_341 rfl 0 rfl ?_
      refine s_iload_n (pc := 342) O dL_law_342 rfl 3 rfl ?_
      refine s_iconst (pc := 343) O (v := 1) dL_law_343 (by decide) ?_
      refine s_iadd (pc := 344) O dL_law_344 ?_
      obtain ⟨hg, h⟩ := gd h
      refine s_sld (pc := 345) O hi hg dL_law_345 ?_
      refine s_aload_nR (pc := 346) O dL_law_346 rfl 0 rfl ?_
      refine s_iload_n (pc := 347) O dL_law_347 rfl 3 rfl ?_
      refine s_iconst (pc := 348) O (v := 2) dL_law_348 (by decide) ?_
      refine s_iadd (pc := 349) O dL_law_349 ?_
      obtain ⟨hg, h⟩ := gd h
      refine s_sld (pc := 350) O hi hg dL_law_350 ?_
      obtain ⟨v13, e, h⟩ := bd h
      refine s_callVi (pc := 351) O (As := [.int (xs ((a3 + 1) : Int32).toNatClampNeg), .int (xs ((a3 + 2) : Int32).toNatClampNeg)]) kc6 (c_X6_letter (G := X.1) e) cy_X6_letter tw_427 tw_428 tw_429 (by decide) rfl (Nat.le_refl _) hn (r_X6_letter e).1 (r_X6_letter e).2 rfl (Nat.le_of_ble_eq_true rfl) dL_law_351 ?_
      refine s_aload_n (pc := 354) O dL_law_354 rfl 2 rfl ?_
      refine s_aload_nR (pc := 355) O dL_law_355 rfl 0 rfl ?_
      refine s_iload_n (pc := 356) O dL_law_356 rfl 3 rfl ?_
      refine s_iconst (pc := 357) O (v := 1) dL_law_357 (by decide) ?_
      refine s_iadd (pc := 358) O dL_law_358 ?_
      obtain ⟨hg, h⟩ := gd h
      refine s_sld (pc := 359) O hi hg dL_law_359 ?_
      refine s_aload_nR (pc := 360) O dL_law_360 rfl 0 rfl ?_
      refine s_iload_n (pc := 361) O dL_law_361 rfl 3 rfl ?_
      refine s_iconst (pc := 362) O (v := 2) dL_law_362 (by decide) ?_
      refine s_iadd (pc := 363) O dL_law_363 ?_
      obtain ⟨hg, h⟩ := gd h
      refine s_sld (pc := 364) O hi hg dL_law_364 ?_
      obtain ⟨v14, e, h⟩ := bd h
      refine s_callVi (pc := 365) O (As := [.int (xs ((a3 + 1) : Int32).toNatClampNeg), .int (xs ((a3 + 2) : Int32).toNatClampNeg)]) kc7 (c_X7_letter (G := X.1) e) cy_X7_letter tw_797 tw_798 tw_799 (by decide) rfl (Nat.le_refl _) hn (r_X7_letter e).1 (r_X7_letter e).2 rfl (Nat.le_of_ble_eq_true rfl) dL_law_365 ?_
      refine s_icmp_eq (pc := 368) O (tgt := 871) dL_law_368 (by decide) (fun c => ?_) (fun c => ?_)
      · have h := ifp c h
        exact s_sub (pc := 871) O [0, 1, 2, 3] rfl (g_L_law_871 O hi hn h hK)
      · have h := ifn c h
        refine s_iconst (pc := 371) O (v := 0) dL_law_371 (by decide) ?_
        cases h
        exact absurd (show (0 : Int32) = 1 from hK.1) (by decide)
    have h := ifn c6 h
    by_cases c7 : x = 7
    · have h := ifp c7 h
      subst c7
      refine s_tabIn (pc := 32) O (tgt := 373) dL_law_32 (by decide) (by decide) rfl (by decide) ?_
      refine s_aload_n (pc := 373) O dL_law_373 rfl 1 rfl ?_
      refine s_aload_nR (pc := 374) O dL_law_374 rfl 0 rfl ?_
      refine s_iload_n (pc := 375) O dL_law_375 rfl 3 rfl ?_
      refine s_iconst (pc := 376) O (v := 1) dL_law_376 (by decide) ?_
      refine s_iadd (pc := 377) O dL_law_377 ?_
      obtain ⟨hg, h⟩ := gd h
      refine s_sld (pc := 378) O hi hg dL_law_378 ?_
      refine s_aload_nR (pc := 379) O dL_law_379 rfl 0 rfl ?_
      refine s_iload_n (pc := 380) O dL_law_380 rfl 3 rfl ?_
      refine s_iconst (pc := 381) O (v := 2) dL_law_381 (by decide) ?_
      refine s_iadd (pc := 382) O dL_law_382 ?_
      obtain ⟨hg, h⟩ := gd h
      refine s_sld (pc := 383) O hi hg dL_law_383 ?_
      obtain ⟨v15, e, h⟩ := bd h
      refine s_callVi (pc := 384) O (As := [.int (xs ((a3 + 1) : Int32).toNatClampNeg), .int (xs ((a3 + 2) : Int32).toNatClampNeg)]) kc6 (c_X6_has (G := X.1) e) cy_X6_has tw_435 tw_436 tw_437 (by decide) rfl (Nat.le_refl _) hn (r_X6_has e).1 (r_X6_has e).2 rfl (Nat.le_of_ble_eq_true rfl) dL_law_384 ?_
      refine s_aload_n (pc := 387) O dL_law_387 rfl 2 rfl ?_
      refine s_aload_nR (pc := 388) O dL_law_388 rfl 0 rfl ?_
      refine s_iload_n (pc := 389) O dL_law_389 rfl 3 rfl ?_
      refine s_iconst (pc := 390) O (v := 1) dL_law_390 (by decide) ?_
      refine s_iadd (pc := 391) O dL_law_391 ?_
      obtain ⟨hg, h⟩ := gd h
      refine s_sld (pc := 392) O hi hg dL_law_392 ?_
      refine s_aload_nR (pc := 393) O dL_law_393 rfl 0 rfl ?_
      refine s_iload_n (pc := 394) O dL_law_394 rfl 3 rfl ?_
      refine s_iconst (pc := 395) O (v := 2) dL_law_395 (by decide) ?_
      refine s_iadd (pc := 396) O dL_law_396 ?_
      obtain ⟨hg, h⟩ := gd h
      refine s_sld (pc := 397) O hi hg dL_law_397 ?_
      obtain ⟨v16, e, h⟩ := bd h
      refine s_callVi (pc := 398) O (As := [.int (xs ((a3 + 1) : Int32).toNatClampNeg), .int (xs ((a3 + 2) : Int32).toNatClampNeg)]) kc7 (c_X7_has (G := X.1) e) cy_X7_has tw_808 tw_809 tw_810 (by decide) rfl (Nat.le_refl _) hn (r_X7_has e).1 (r_X7_has e).2 rfl (Nat.le_of_ble_eq_true rfl) dL_law_398 ?_
      refine s_icmp_eq (pc := 401) O (tgt := 871) dL_law_401 (by decide) (fun c => ?_) (fun c => ?_)
      · have h := ifp c h
        exact s_sub (pc := 871) O [0, 1, 2, 3] rfl (g_L_law_871 O hi hn h hK)
      · have h := ifn c h
        refine s_iconst (pc := 404) O (v := 0) dL_law_404 (by decide) ?_
        cases h
        exact absurd (show (0 : Int32) = 1 from hK.1) (by decide)
    have h := ifn c7 h
    by_cases c8 : x = 8
    · have h := ifp c8 h
      subst c8
      refine s_tabIn (pc := 32) O (tgt := 406) dL_law_32 (by decide) (by decide) rfl (by decide) ?_
      refine s_aload_n (pc := 406) O dL_law_406 rfl 1 rfl ?_
      refine s_aload_nR (pc := 407) O dL_law_407 rfl 0 rfl ?_
      refine s_iload_n (pc := 408) O dL_law_408 rfl 3 rfl ?_
      refine s_iconst (pc := 409) O (v := 1) dL_law_409 (by decide) ?_
      refine s_iadd (pc := 410) O dL_law_410 ?_
      obtain ⟨hg, h⟩ := gd h
      refine s_sld (pc := 411) O hi hg dL_law_411 ?_
      obtain ⟨v17, e, h⟩ := bd h
      obtain ⟨hg, h⟩ := gd h
      refine s_callVi (pc := 412) O (As := [.int (xs ((a3 + 1) : Int32).toNatClampNeg)]) kc6 (c_X6_write (G := X.1) e (Nat.le_of_eq hg.symm)) cy_X6_write tw_443 tw_444 tw_445 (by decide) rfl (Nat.le_of_eq hg.symm) (by rw [hg]; exact hn) (r_X6_write e).1 (r_X6_write e).2 rfl (Nat.le_of_ble_eq_true rfl) dL_law_412 ?_
      have hn : v17.2.1 ≤ lim := by rw [hg]; exact hn
      refine s_aload_n (pc := 415) O dL_law_415 rfl 2 rfl ?_
      refine s_aload_nR (pc := 416) O dL_law_416 rfl 0 rfl ?_
      refine s_iload_n (pc := 417) O dL_law_417 rfl 3 rfl ?_
      refine s_iconst (pc := 418) O (v := 1) dL_law_418 (by decide) ?_
      refine s_iadd (pc := 419) O dL_law_419 ?_
      obtain ⟨hg, h⟩ := gd h
      refine s_sld (pc := 420) O hi hg dL_law_420 ?_
      obtain ⟨v18, e, h⟩ := bd h
      obtain ⟨hg, h⟩ := gd h
      refine s_callVi (pc := 421) O (As := [.int (xs ((a3 + 1) : Int32).toNatClampNeg)]) kc7 (c_X7_write (G := X.1) e (Nat.le_of_eq hg.symm)) cy_X7_write tw_812 tw_813 tw_814 (by decide) rfl (Nat.le_of_eq hg.symm) (by rw [hg]; exact hn) (r_X7_write e).1 (r_X7_write e).2 rfl (Nat.le_of_ble_eq_true rfl) dL_law_421 ?_
      have hn : v18.2.1 ≤ lim := by rw [hg]; exact hn
      refine s_icmp_eq (pc := 424) O (tgt := 871) dL_law_424 (by decide) (fun c => ?_) (fun c => ?_)
      · have h := ifp c h
        exact s_sub (pc := 871) O [0, 1, 2, 3] rfl (g_L_law_871 O hi hn h hK)
      · have h := ifn c h
        refine s_iconst (pc := 427) O (v := 0) dL_law_427 (by decide) ?_
        cases h
        exact absurd (show (0 : Int32) = 1 from hK.1) (by decide)
    have h := ifn c8 h
    by_cases c9 : x = 9
    · have h := ifp c9 h
      subst c9
      refine s_tabIn (pc := 32) O (tgt := 429) dL_law_32 (by decide) (by decide) rfl (by decide) ?_
      refine s_aload_n (pc := 429) O dL_law_429 rfl 1 rfl ?_
      obtain ⟨v19, e, h⟩ := bd h
      obtain ⟨hg, h⟩ := gd h
      refine s_callVi (pc := 430) O (As := []) kc6 (c_X6_undo (G := X.1) e (Nat.le_of_eq hg.symm)) cy_X6_undo tw_451 tw_452 tw_453 (by decide) rfl (Nat.le_of_eq hg.symm) (by rw [hg]; exact hn) (r_X6_undo e).1 (r_X6_undo e).2 rfl (Nat.le_of_ble_eq_true rfl) dL_law_430 ?_
      have hn : v19.2.1 ≤ lim := by rw [hg]; exact hn
      refine s_aload_n (pc := 433) O dL_law_433 rfl 2 rfl ?_
      obtain ⟨v20, e, h⟩ := bd h
      obtain ⟨hg, h⟩ := gd h
      refine s_callVi (pc := 434) O (As := []) kc7 (c_X7_undo (G := X.1) e (Nat.le_of_eq hg.symm)) cy_X7_undo tw_816 tw_817 tw_818 (by decide) rfl (Nat.le_of_eq hg.symm) (by rw [hg]; exact hn) (r_X7_undo e).1 (r_X7_undo e).2 rfl (Nat.le_of_ble_eq_true rfl) dL_law_434 ?_
      have hn : v20.2.1 ≤ lim := by rw [hg]; exact hn
      refine s_icmp_eq (pc := 437) O (tgt := 871) dL_law_437 (by decide) (fun c => ?_) (fun c => ?_)
      · have h := ifp c h
        exact s_sub (pc := 871) O [0, 1, 2, 3] rfl (g_L_law_871 O hi hn h hK)
      · have h := ifn c h
        refine s_iconst (pc := 440) O (v := 0) dL_law_440 (by decide) ?_
        cases h
        exact absurd (show (0 : Int32) = 1 from hK.1) (by decide)
    have h := ifn c9 h
    by_cases c10 : x = 10
    · have h := ifp c10 h
      subst c10
      refine s_tabIn (pc := 32) O (tgt := 442) dL_law_32 (by decide) (by decide) rfl (by decide) ?_
      refine s_aload_n (pc := 442) O dL_law_442 rfl 1 rfl ?_
      refine s_aload_nR (pc := 443) O dL_law_443 rfl 0 rfl ?_
      refine s_iload_n (pc := 444) O dL_law_444 rfl 3 rfl ?_
      refine s_iconst (pc := 445) O (v := 1) dL_law_445 (by decide) ?_
      refine s_iadd (pc := 446) O dL_law_446 ?_
      obtain ⟨hg, h⟩ := gd h
      refine s_sld (pc := 447) O hi hg dL_law_447 ?_
      obtain ⟨v21, e, h⟩ := bd h
      refine s_callVi (pc := 448) O (As := [.int (xs ((a3 + 1) : Int32).toNatClampNeg)]) kc6 (c_X6_wrote (G := X.1) e) cy_X6_wrote tw_455 tw_456 tw_457 (by decide) rfl (Nat.le_refl _) hn (r_X6_wrote e).1 (r_X6_wrote e).2 rfl (Nat.le_of_ble_eq_true rfl) dL_law_448 ?_
      refine s_aload_n (pc := 451) O dL_law_451 rfl 2 rfl ?_
      refine s_aload_nR (pc := 452) O dL_law_452 rfl 0 rfl ?_
      refine s_iload_n (pc := 453) O dL_law_453 rfl 3 rfl ?_
      refine s_iconst (pc := 454) O (v := 1) dL_law_454 (by decide) ?_
      refine s_iadd (pc := 455) O dL_law_455 ?_
      obtain ⟨hg, h⟩ := gd h
      refine s_sld (pc := 456) O hi hg dL_law_456 ?_
      obtain ⟨v22, e, h⟩ := bd h
      refine s_callVi (pc := 457) O (As := [.int (xs ((a3 + 1) : Int32).toNatClampNeg)]) kc7 (c_X7_wrote (G := X.1) e) cy_X7_wrote tw_820 tw_821 tw_822 (by decide) rfl (Nat.le_refl _) hn (r_X7_wrote e).1 (r_X7_wrote e).2 rfl (Nat.le_of_ble_eq_true rfl) dL_law_457 ?_
      refine s_icmp_eq (pc := 460) O (tgt := 871) dL_law_460 (by decide) (fun c => ?_) (fun c => ?_)
      · have h := ifp c h
        exact s_sub (pc := 871) O [0, 1, 2, 3] rfl (g_L_law_871 O hi hn h hK)
      · have h := ifn c h
        refine s_iconst (pc := 463) O (v := 0) dL_law_463 (by decide) ?_
        cases h
        exact absurd (show (0 : Int32) = 1 from hK.1) (by decide)
    have h := ifn c10 h
    by_cases c11 : x = 11
    · have h := ifp c11 h
      subst c11
      refine s_tabIn (pc := 32) O (tgt := 465) dL_law_32 (by decide) (by decide) rfl (by decide) ?_
      refine s_aload_n (pc := 465) O dL_law_465 rfl 1 rfl ?_
      refine s_aload_nR (pc := 466) O dL_law_466 rfl 0 rfl ?_
      refine s_iload_n (pc := 467) O dL_law_467 rfl 3 rfl ?_
      refine s_iconst (pc := 468) O (v := 1) dL_law_468 (by decide) ?_
      refine s_iadd (pc := 469) O dL_law_469 ?_
      obtain ⟨hg, h⟩ := gd h
      refine s_sld (pc := 470) O hi hg dL_law_470 ?_
      obtain ⟨v23, e, h⟩ := bd h
      refine s_callVi (pc := 471) O (As := [.int (xs ((a3 + 1) : Int32).toNatClampNeg)]) kc6 (c_X6_side (G := X.1) e) cy_X6_side tw_459 tw_460 tw_461 (by decide) rfl (Nat.le_refl _) hn (r_X6_side e).1 (r_X6_side e).2 rfl (Nat.le_of_ble_eq_true rfl) dL_law_471 ?_
      refine s_aload_n (pc := 474) O dL_law_474 rfl 2 rfl ?_
      refine s_aload_nR (pc := 475) O dL_law_475 rfl 0 rfl ?_
      refine s_iload_n (pc := 476) O dL_law_476 rfl 3 rfl ?_
      refine s_iconst (pc := 477) O (v := 1) dL_law_477 (by decide) ?_
      refine s_iadd (pc := 478) O dL_law_478 ?_
      obtain ⟨hg, h⟩ := gd h
      refine s_sld (pc := 479) O hi hg dL_law_479 ?_
      obtain ⟨v24, e, h⟩ := bd h
      refine s_callVi (pc := 480) O (As := [.int (xs ((a3 + 1) : Int32).toNatClampNeg)]) kc7 (c_X7_side (G := X.1) e) cy_X7_side tw_824 tw_825 tw_826 (by decide) rfl (Nat.le_refl _) hn (r_X7_side e).1 (r_X7_side e).2 rfl (Nat.le_of_ble_eq_true rfl) dL_law_480 ?_
      refine s_icmp_eq (pc := 483) O (tgt := 871) dL_law_483 (by decide) (fun c => ?_) (fun c => ?_)
      · have h := ifp c h
        exact s_sub (pc := 871) O [0, 1, 2, 3] rfl (g_L_law_871 O hi hn h hK)
      · have h := ifn c h
        refine s_iconst (pc := 486) O (v := 0) dL_law_486 (by decide) ?_
        cases h
        exact absurd (show (0 : Int32) = 1 from hK.1) (by decide)
    have h := ifn c11 h
    by_cases c12 : x = 12
    · have h := ifp c12 h
      subst c12
      refine s_tabIn (pc := 32) O (tgt := 488) dL_law_32 (by decide) (by decide) rfl (by decide) ?_
      refine s_aload_n (pc := 488) O dL_law_488 rfl 1 rfl ?_
      refine s_aload_nR (pc := 489) O dL_law_489 rfl 0 rfl ?_
      refine s_iload_n (pc := 490) O dL_law_490 rfl 3 rfl ?_
      refine s_iconst (pc := 491) O (v := 1) dL_law_491 (by decide) ?_
      refine s_iadd (pc := 492) O dL_law_492 ?_
      obtain ⟨hg, h⟩ := gd h
      refine s_sld (pc := 493) O hi hg dL_law_493 ?_
      obtain ⟨v25, e, h⟩ := bd h
      refine s_callVi (pc := 494) O (As := [.int (xs ((a3 + 1) : Int32).toNatClampNeg)]) kc6 (c_X6_says (G := X.1) e) cy_X6_says tw_463 tw_464 tw_465 (by decide) rfl (Nat.le_refl _) hn (r_X6_says e).1 (r_X6_says e).2 rfl (Nat.le_of_ble_eq_true rfl) dL_law_494 ?_
      refine s_aload_n (pc := 497) O dL_law_497 rfl 2 rfl ?_
      refine s_aload_nR (pc := 498) O dL_law_498 rfl 0 rfl ?_
      refine s_iload_n (pc := 499) O dL_law_499 rfl 3 rfl ?_
      refine s_iconst (pc := 500) O (v := 1) dL_law_500 (by decide) ?_
      refine s_iadd (pc := 501) O dL_law_501 ?_
      obtain ⟨hg, h⟩ := gd h
      refine s_sld (pc := 502) O hi hg dL_law_502 ?_
      obtain ⟨v26, e, h⟩ := bd h
      refine s_callVi (pc := 503) O (As := [.int (xs ((a3 + 1) : Int32).toNatClampNeg)]) kc7 (c_X7_says (G := X.1) e) cy_X7_says tw_828 tw_829 tw_830 (by decide) rfl (Nat.le_refl _) hn (r_X7_says e).1 (r_X7_says e).2 rfl (Nat.le_of_ble_eq_true rfl) dL_law_503 ?_
      refine s_icmp_eq (pc := 506) O (tgt := 871) dL_law_506 (by decide) (fun c => ?_) (fun c => ?_)
      · have h := ifp c h
        exact s_sub (pc := 871) O [0, 1, 2, 3] rfl (g_L_law_871 O hi hn h hK)
      · have h := ifn c h
        refine s_iconst (pc := 509) O (v := 0) dL_law_509 (by decide) ?_
        cases h
        exact absurd (show (0 : Int32) = 1 from hK.1) (by decide)
    have h := ifn c12 h
    by_cases c13 : x = 13
    · have h := ifp c13 h
      subst c13
      refine s_tabIn (pc := 32) O (tgt := 511) dL_law_32 (by decide) (by decide) rfl (by decide) ?_
      refine s_aload_n (pc := 511) O dL_law_511 rfl 1 rfl ?_
      refine s_aload_nR (pc := 512) O dL_law_512 rfl 0 rfl ?_
      refine s_iload_n (pc := 513) O dL_law_513 rfl 3 rfl ?_
      refine s_iconst (pc := 514) O (v := 1) dL_law_514 (by decide) ?_
      refine s_iadd (pc := 515) O dL_law_515 ?_
      obtain ⟨hg, h⟩ := gd h
      refine s_sld (pc := 516) O hi hg dL_law_516 ?_
      refine s_aload_nR (pc := 517) O dL_law_517 rfl 0 rfl ?_
      refine s_iload_n (pc := 518) O dL_law_518 rfl 3 rfl ?_
      refine s_iconst (pc := 519) O (v := 2) dL_law_519 (by decide) ?_
      refine s_iadd (pc := 520) O dL_law_520 ?_
      obtain ⟨hg, h⟩ := gd h
      refine s_sld (pc := 521) O hi hg dL_law_521 ?_
      refine s_aload_nR (pc := 522) O dL_law_522 rfl 0 rfl ?_
      refine s_iload_n (pc := 523) O dL_law_523 rfl 3 rfl ?_
      refine s_iconst (pc := 524) O (v := 3) dL_law_524 (by decide) ?_
      refine s_iadd (pc := 525) O dL_law_525 ?_
      obtain ⟨hg, h⟩ := gd h
      refine s_sld (pc := 526) O hi hg dL_law_526 ?_
      obtain ⟨v27, e, h⟩ := bd h
      refine s_callVi (pc := 527) O (As := [.int (xs ((a3 + 1) : Int32).toNatClampNeg), .int (xs ((a3 + 2) : Int32).toNatClampNeg), .int (xs ((a3 + 3) : Int32).toNatClampNeg)]) kc6 (c_X6_answers (G := X.1) e) cy_X6_answers tw_478 tw_479 tw_480 (by decide) rfl (Nat.le_refl _) hn (r_X6_answers e).1 (r_X6_answers e).2 rfl (Nat.le_of_ble_eq_true rfl) dL_law_527 ?_
      refine s_aload_n (pc := 530) O dL_law_530 rfl 2 rfl ?_
      refine s_aload_nR (pc := 531) O dL_law_531 rfl 0 rfl ?_
      refine s_iload_n (pc := 532) O dL_law_532 rfl 3 rfl ?_
      refine s_iconst (pc := 533) O (v := 1) dL_law_533 (by decide) ?_
      refine s_iadd (pc := 534) O dL_law_534 ?_
      obtain ⟨hg, h⟩ := gd h
      refine s_sld (pc := 535) O hi hg dL_law_535 ?_
      refine s_aload_nR (pc := 536) O dL_law_536 rfl 0 rfl ?_
      refine s_iload_n (pc := 537) O dL_law_537 rfl 3 rfl ?_
      refine s_iconst (pc := 538) O (v := 2) dL_law_538 (by decide) ?_
      refine s_iadd (pc := 539) O dL_law_539 ?_
      obtain ⟨hg, h⟩ := gd h
      refine s_sld (pc := 540) O hi hg dL_law_540 ?_
      refine s_aload_nR (pc := 541) O dL_law_541 rfl 0 rfl ?_
      refine s_iload_n (pc := 542) O dL_law_542 rfl 3 rfl ?_
      refine s_iconst (pc := 543) O (v := 3) dL_law_543 (by decide) ?_
      refine s_iadd (pc := 544) O dL_law_544 ?_
      obtain ⟨hg, h⟩ := gd h
      refine s_sld (pc := 545) O hi hg dL_law_545 ?_
      obtain ⟨v28, e, h⟩ := bd h
      refine s_callVi (pc := 546) O (As := [.int (xs ((a3 + 1) : Int32).toNatClampNeg), .int (xs ((a3 + 2) : Int32).toNatClampNeg), .int (xs ((a3 + 3) : Int32).toNatClampNeg)]) kc7 (c_X7_answers (G := X.1) e) cy_X7_answers tw_832 tw_833 tw_834 (by decide) rfl (Nat.le_refl _) hn (r_X7_answers e).1 (r_X7_answers e).2 rfl (Nat.le_of_ble_eq_true rfl) dL_law_546 ?_
      refine s_icmp_eq (pc := 549) O (tgt := 871) dL_law_549 (by decide) (fun c => ?_) (fun c => ?_)
      · have h := ifp c h
        exact s_sub (pc := 871) O [0, 1, 2, 3] rfl (g_L_law_871 O hi hn h hK)
      · have h := ifn c h
        refine s_iconst (pc := 552) O (v := 0) dL_law_552 (by decide) ?_
        cases h
        exact absurd (show (0 : Int32) = 1 from hK.1) (by decide)
    have h := ifn c13 h
    by_cases c14 : x = 14
    · have h := ifp c14 h
      subst c14
      refine s_tabIn (pc := 32) O (tgt := 554) dL_law_32 (by decide) (by decide) rfl (by decide) ?_
      refine s_aload_n (pc := 554) O dL_law_554 rfl 1 rfl ?_
      refine s_aload_nR (pc := 555) O dL_law_555 rfl 0 rfl ?_
      refine s_iload_n (pc := 556) O dL_law_556 rfl 3 rfl ?_
      refine s_iconst (pc := 557) O (v := 1) dL_law_557 (by decide) ?_
      refine s_iadd (pc := 558) O dL_law_558 ?_
      obtain ⟨hg, h⟩ := gd h
      refine s_sld (pc := 559) O hi hg dL_law_559 ?_
      obtain ⟨v29, e, h⟩ := bd h
      refine s_callVi (pc := 560) O (As := [.int (xs ((a3 + 1) : Int32).toNatClampNeg)]) kc6 (c_X6_mute (G := X.1) e) cy_X6_mute tw_505 tw_506 tw_507 (by decide) rfl (Nat.le_refl _) hn (r_X6_mute e).1 (r_X6_mute e).2 rfl (Nat.le_of_ble_eq_true rfl) dL_law_560 ?_
      refine s_aload_n (pc := 563) O dL_law_563 rfl 2 rfl ?_
      refine s_aload_nR (pc := 564) O dL_law_564 rfl 0 rfl ?_
      refine s_iload_n (pc := 565) O dL_law_565 rfl 3 rfl ?_
      refine s_iconst (pc := 566) O (v := 1) dL_law_566 (by decide) ?_
      refine s_iadd (pc := 567) O dL_law_567 ?_
      obtain ⟨hg, h⟩ := gd h
      refine s_sld (pc := 568) O hi hg dL_law_568 ?_
      obtain ⟨v30, e, h⟩ := bd h
      refine s_callVi (pc := 569) O (As := [.int (xs ((a3 + 1) : Int32).toNatClampNeg)]) kc7 (c_X7_mute (G := X.1) e) cy_X7_mute tw_847 tw_848 tw_849 (by decide) rfl (Nat.le_refl _) hn (r_X7_mute e).1 (r_X7_mute e).2 rfl (Nat.le_of_ble_eq_true rfl) dL_law_569 ?_
      refine s_icmp_eq (pc := 572) O (tgt := 871) dL_law_572 (by decide) (fun c => ?_) (fun c => ?_)
      · have h := ifp c h
        exact s_sub (pc := 871) O [0, 1, 2, 3] rfl (g_L_law_871 O hi hn h hK)
      · have h := ifn c h
        refine s_iconst (pc := 575) O (v := 0) dL_law_575 (by decide) ?_
        cases h
        exact absurd (show (0 : Int32) = 1 from hK.1) (by decide)
    have h := ifn c14 h
    by_cases c15 : x = 15
    · have h := ifp c15 h
      subst c15
      refine s_tabIn (pc := 32) O (tgt := 577) dL_law_32 (by decide) (by decide) rfl (by decide) ?_
      refine s_aload_n (pc := 577) O dL_law_577 rfl 1 rfl ?_
      refine s_aload_nR (pc := 578) O dL_law_578 rfl 0 rfl ?_
      refine s_iload_n (pc := 579) O dL_law_579 rfl 3 rfl ?_
      refine s_iconst (pc := 580) O (v := 1) dL_law_580 (by decide) ?_
      refine s_iadd (pc := 581) O dL_law_581 ?_
      obtain ⟨hg, h⟩ := gd h
      refine s_sld (pc := 582) O hi hg dL_law_582 ?_
      obtain ⟨v31, e, h⟩ := bd h
      refine s_callVi (pc := 583) O (As := [.int (xs ((a3 + 1) : Int32).toNatClampNeg)]) kc6 (c_X6_best (G := X.1) e) cy_X6_best tw_517 tw_518 tw_519 (by decide) rfl (Nat.le_refl _) hn (r_X6_best e).1 (r_X6_best e).2 rfl (Nat.le_of_ble_eq_true rfl) dL_law_583 ?_
      refine s_aload_n (pc := 586) O dL_law_586 rfl 2 rfl ?_
      refine s_aload_nR (pc := 587) O dL_law_587 rfl 0 rfl ?_
      refine s_iload_n (pc := 588) O dL_law_588 rfl 3 rfl ?_
      refine s_iconst (pc := 589) O (v := 1) dL_law_589 (by decide) ?_
      refine s_iadd (pc := 590) O dL_law_590 ?_
      obtain ⟨hg, h⟩ := gd h
      refine s_sld (pc := 591) O hi hg dL_law_591 ?_
      obtain ⟨v32, e, h⟩ := bd h
      refine s_callVi (pc := 592) O (As := [.int (xs ((a3 + 1) : Int32).toNatClampNeg)]) kc7 (c_X7_best (G := X.1) e) cy_X7_best tw_851 tw_852 tw_853 (by decide) rfl (Nat.le_refl _) hn (r_X7_best e).1 (r_X7_best e).2 rfl (Nat.le_of_ble_eq_true rfl) dL_law_592 ?_
      refine s_icmp_eq (pc := 595) O (tgt := 871) dL_law_595 (by decide) (fun c => ?_) (fun c => ?_)
      · have h := ifp c h
        exact s_sub (pc := 871) O [0, 1, 2, 3] rfl (g_L_law_871 O hi hn h hK)
      · have h := ifn c h
        refine s_iconst (pc := 598) O (v := 0) dL_law_598 (by decide) ?_
        cases h
        exact absurd (show (0 : Int32) = 1 from hK.1) (by decide)
    have h := ifn c15 h
    by_cases c16 : x = 16
    · have h := ifp c16 h
      subst c16
      refine s_tabIn (pc := 32) O (tgt := 600) dL_law_32 (by decide) (by decide) rfl (by decide) ?_
      refine s_aload_n (pc := 600) O dL_law_600 rfl 1 rfl ?_
      refine s_aload_nR (pc := 601) O dL_law_601 rfl 0 rfl ?_
      refine s_iload_n (pc := 602) O dL_law_602 rfl 3 rfl ?_
      refine s_iconst (pc := 603) O (v := 1) dL_law_603 (by decide) ?_
      refine s_iadd (pc := 604) O dL_law_604 ?_
      obtain ⟨hg, h⟩ := gd h
      refine s_sld (pc := 605) O hi hg dL_law_605 ?_
      refine s_aload_nR (pc := 606) O dL_law_606 rfl 0 rfl ?_
      refine s_iload_n (pc := 607) O dL_law_607 rfl 3 rfl ?_
      refine s_iconst (pc := 608) O (v := 2) dL_law_608 (by decide) ?_
      refine s_iadd (pc := 609) O dL_law_609 ?_
      obtain ⟨hg, h⟩ := gd h
      refine s_sld (pc := 610) O hi hg dL_law_610 ?_
      obtain ⟨v33, e, h⟩ := bd h
      refine s_callVi (pc := 611) O (As := [.int (xs ((a3 + 1) : Int32).toNatClampNeg), .int (xs ((a3 + 2) : Int32).toNatClampNeg)]) kc6 (c_X6_bar (G := X.1) e) cy_X6_bar tw_525 tw_526 tw_527 (by decide) rfl (Nat.le_refl _) hn (r_X6_bar e).1 (r_X6_bar e).2 rfl (Nat.le_of_ble_eq_true rfl) dL_law_611 ?_
      refine s_aload_n (pc := 614) O dL_law_614 rfl 2 rfl ?_
      refine s_aload_nR (pc := 615) O dL_law_615 rfl 0 rfl ?_
      refine s_iload_n (pc := 616) O dL_law_616 rfl 3 rfl ?_
      refine s_iconst (pc := 617) O (v := 1) dL_law_617 (by decide) ?_
      refine s_iadd (pc := 618) O dL_law_618 ?_
      obtain ⟨hg, h⟩ := gd h
      refine s_sld (pc := 619) O hi hg dL_law_619 ?_
      refine s_aload_nR (pc := 620) O dL_law_620 rfl 0 rfl ?_
      refine s_iload_n (pc := 621) O dL_law_621 rfl 3 rfl ?_
      refine s_iconst (pc := 622) O (v := 2) dL_law_622 (by decide) ?_
      refine s_iadd (pc := 623) O dL_law_623 ?_
      obtain ⟨hg, h⟩ := gd h
      refine s_sld (pc := 624) O hi hg dL_law_624 ?_
      obtain ⟨v34, e, h⟩ := bd h
      refine s_callVi (pc := 625) O (As := [.int (xs ((a3 + 1) : Int32).toNatClampNeg), .int (xs ((a3 + 2) : Int32).toNatClampNeg)]) kc7 (c_X7_bar (G := X.1) e) cy_X7_bar tw_855 tw_856 tw_857 (by decide) rfl (Nat.le_refl _) hn (r_X7_bar e).1 (r_X7_bar e).2 rfl (Nat.le_of_ble_eq_true rfl) dL_law_625 ?_
      refine s_icmp_eq (pc := 628) O (tgt := 871) dL_law_628 (by decide) (fun c => ?_) (fun c => ?_)
      · have h := ifp c h
        exact s_sub (pc := 871) O [0, 1, 2, 3] rfl (g_L_law_871 O hi hn h hK)
      · have h := ifn c h
        refine s_iconst (pc := 631) O (v := 0) dL_law_631 (by decide) ?_
        cases h
        exact absurd (show (0 : Int32) = 1 from hK.1) (by decide)
    have h := ifn c16 h
    by_cases c17 : x = 17
    · have h := ifp c17 h
      subst c17
      refine s_tabIn (pc := 32) O (tgt := 633) dL_law_32 (by decide) (by decide) rfl (by decide) ?_
      refine s_aload_n (pc := 633) O dL_law_633 rfl 1 rfl ?_
      refine s_aload_nR (pc := 634) O dL_law_634 rfl 0 rfl ?_
      refine s_iload_n (pc := 635) O dL_law_635 rfl 3 rfl ?_
      refine s_iconst (pc := 636) O (v := 1) dL_law_636 (by decide) ?_
      refine s_iadd (pc := 637) O dL_law_637 ?_
      obtain ⟨hg, h⟩ := gd h
      refine s_sld (pc := 638) O hi hg dL_law_638 ?_
      refine s_aload_nR (pc := 639) O dL_law_639 rfl 0 rfl ?_
      refine s_iload_n (pc := 640) O dL_law_640 rfl 3 rfl ?_
      refine s_iconst (pc := 641) O (v := 2) dL_law_641 (by decide) ?_
      refine s_iadd (pc := 642) O dL_law_642 ?_
      obtain ⟨hg, h⟩ := gd h
      refine s_sld (pc := 643) O hi hg dL_law_643 ?_
      obtain ⟨v35, e, h⟩ := bd h
      refine s_callVi (pc := 644) O (As := [.int (xs ((a3 + 1) : Int32).toNatClampNeg), .int (xs ((a3 + 2) : Int32).toNatClampNeg)]) kc6 (c_X6_chain (G := X.1) e) cy_X6_chain tw_533 tw_534 tw_535 (by decide) rfl (Nat.le_refl _) hn (r_X6_chain e).1 (r_X6_chain e).2 rfl (Nat.le_of_ble_eq_true rfl) dL_law_644 ?_
      refine s_aload_n (pc := 647) O dL_law_647 rfl 2 rfl ?_
      refine s_aload_nR (pc := 648) O dL_law_648 rfl 0 rfl ?_
      refine s_iload_n (pc := 649) O dL_law_649 rfl 3 rfl ?_
      refine s_iconst (pc := 650) O (v := 1) dL_law_650 (by decide) ?_
      refine s_iadd (pc := 651) O dL_law_651 ?_
      obtain ⟨hg, h⟩ := gd h
      refine s_sld (pc := 652) O hi hg dL_law_652 ?_
      refine s_aload_nR (pc := 653) O dL_law_653 rfl 0 rfl ?_
      refine s_iload_n (pc := 654) O dL_law_654 rfl 3 rfl ?_
      refine s_iconst (pc := 655) O (v := 2) dL_law_655 (by decide) ?_
      refine s_iadd (pc := 656) O dL_law_656 ?_
      obtain ⟨hg, h⟩ := gd h
      refine s_sld (pc := 657) O hi hg dL_law_657 ?_
      obtain ⟨v36, e, h⟩ := bd h
      obtain ⟨hg, h⟩ := gd h
      refine s_callVi (pc := 658) O (As := [.int (xs ((a3 + 1) : Int32).toNatClampNeg), .int (xs ((a3 + 2) : Int32).toNatClampNeg)]) kc7 (c_X7_chain (G := X.1) e (Nat.le_of_eq hg.symm)) cy_X7_chain tw_859 tw_860 tw_861 (by decide) rfl (Nat.le_of_eq hg.symm) (by rw [hg]; exact hn) (r_X7_chain e).1 (r_X7_chain e).2 rfl (Nat.le_of_ble_eq_true rfl) dL_law_658 ?_
      have hn : v36.2.1 ≤ lim := by rw [hg]; exact hn
      refine s_icmp_eq (pc := 661) O (tgt := 871) dL_law_661 (by decide) (fun c => ?_) (fun c => ?_)
      · have h := ifp c h
        exact s_sub (pc := 871) O [0, 1, 2, 3] rfl (g_L_law_871 O hi hn h hK)
      · have h := ifn c h
        refine s_iconst (pc := 664) O (v := 0) dL_law_664 (by decide) ?_
        cases h
        exact absurd (show (0 : Int32) = 1 from hK.1) (by decide)
    have h := ifn c17 h
    by_cases c18 : x = 18
    · have h := ifp c18 h
      subst c18
      refine s_tabIn (pc := 32) O (tgt := 666) dL_law_32 (by decide) (by decide) rfl (by decide) ?_
      refine s_aload_n (pc := 666) O dL_law_666 rfl 1 rfl ?_
      refine s_aload_nR (pc := 667) O dL_law_667 rfl 0 rfl ?_
      refine s_iload_n (pc := 668) O dL_law_668 rfl 3 rfl ?_
      refine s_iconst (pc := 669) O (v := 1) dL_law_669 (by decide) ?_
      refine s_iadd (pc := 670) O dL_law_670 ?_
      obtain ⟨hg, h⟩ := gd h
      refine s_sld (pc := 671) O hi hg dL_law_671 ?_
      obtain ⟨v37, e, h⟩ := bd h
      refine s_callVi (pc := 672) O (As := [.int (xs ((a3 + 1) : Int32).toNatClampNeg)]) kc6 (c_X6_ring (G := X.1) e) cy_X6_ring tw_541 tw_542 tw_543 (by decide) rfl (Nat.le_refl _) hn (r_X6_ring e).1 (r_X6_ring e).2 rfl (Nat.le_of_ble_eq_true rfl) dL_law_672 ?_
      refine s_aload_n (pc := 675) O dL_law_675 rfl 2 rfl ?_
      refine s_aload_nR (pc := 676) O dL_law_676 rfl 0 rfl ?_
      refine s_iload_n (pc := 677) O dL_law_677 rfl 3 rfl ?_
      refine s_iconst (pc := 678) O (v := 1) dL_law_678 (by decide) ?_
      refine s_iadd (pc := 679) O dL_law_679 ?_
      obtain ⟨hg, h⟩ := gd h
      refine s_sld (pc := 680) O hi hg dL_law_680 ?_
      obtain ⟨v38, e, h⟩ := bd h
      obtain ⟨hg, h⟩ := gd h
      refine s_callVi (pc := 681) O (As := [.int (xs ((a3 + 1) : Int32).toNatClampNeg)]) kc7 (c_X7_ring (G := X.1) e (Nat.le_of_eq hg.symm)) cy_X7_ring tw_867 tw_868 tw_869 (by decide) rfl (Nat.le_of_eq hg.symm) (by rw [hg]; exact hn) (r_X7_ring e).1 (r_X7_ring e).2 rfl (Nat.le_of_ble_eq_true rfl) dL_law_681 ?_
      have hn : v38.2.1 ≤ lim := by rw [hg]; exact hn
      refine s_icmp_eq (pc := 684) O (tgt := 871) dL_law_684 (by decide) (fun c => ?_) (fun c => ?_)
      · have h := ifp c h
        exact s_sub (pc := 871) O [0, 1, 2, 3] rfl (g_L_law_871 O hi hn h hK)
      · have h := ifn c h
        refine s_iconst (pc := 687) O (v := 0) dL_law_687 (by decide) ?_
        cases h
        exact absurd (show (0 : Int32) = 1 from hK.1) (by decide)
    have h := ifn c18 h
    by_cases c19 : x = 19
    · have h := ifp c19 h
      subst c19
      refine s_tabIn (pc := 32) O (tgt := 689) dL_law_32 (by decide) (by decide) rfl (by decide) ?_
      refine s_aload_n (pc := 689) O dL_law_689 rfl 1 rfl ?_
      refine s_aload_nR (pc := 690) O dL_law_690 rfl 0 rfl ?_
      refine s_iload_n (pc := 691) O dL_law_691 rfl 3 rfl ?_
      refine s_iconst (pc := 692) O (v := 1) dL_law_692 (by decide) ?_
      refine s_iadd (pc := 693) O dL_law_693 ?_
      obtain ⟨hg, h⟩ := gd h
      refine s_sld (pc := 694) O hi hg dL_law_694 ?_
      refine s_aload_nR (pc := 695) O dL_law_695 rfl 0 rfl ?_
      refine s_iload_n (pc := 696) O dL_law_696 rfl 3 rfl ?_
      refine s_iconst (pc := 697) O (v := 2) dL_law_697 (by decide) ?_
      refine s_iadd (pc := 698) O dL_law_698 ?_
      obtain ⟨hg, h⟩ := gd h
      refine s_sld (pc := 699) O hi hg dL_law_699 ?_
      obtain ⟨v39, e, h⟩ := bd h
      refine s_callVi (pc := 700) O (As := [.int (xs ((a3 + 1) : Int32).toNatClampNeg), .int (xs ((a3 + 2) : Int32).toNatClampNeg)]) kc6 (c_X6_alphabet (G := X.1) e) cy_X6_alphabet tw_549 tw_550 tw_551 (by decide) rfl (Nat.le_refl _) hn (r_X6_alphabet e).1 (r_X6_alphabet e).2 rfl (Nat.le_of_ble_eq_true rfl) dL_law_700 ?_
      refine s_aload_n (pc := 703) O dL_law_703 rfl 2 rfl ?_
      refine s_aload_nR (pc := 704) O dL_law_704 rfl 0 rfl ?_
      refine s_iload_n (pc := 705) O dL_law_705 rfl 3 rfl ?_
      refine s_iconst (pc := 706) O (v := 1) dL_law_706 (by decide) ?_
      refine s_iadd (pc := 707) O dL_law_707 ?_
      obtain ⟨hg, h⟩ := gd h
      refine s_sld (pc := 708) O hi hg dL_law_708 ?_
      refine s_aload_nR (pc := 709) O dL_law_709 rfl 0 rfl ?_
      refine s_iload_n (pc := 710) O dL_law_710 rfl 3 rfl ?_
      refine s_iconst (pc := 711) O (v := 2) dL_law_711 (by decide) ?_
      refine s_iadd (pc := 712) O dL_law_712 ?_
      obtain ⟨hg, h⟩ := gd h
      refine s_sld (pc := 713) O hi hg dL_law_713 ?_
      obtain ⟨v40, e, h⟩ := bd h
      refine s_callVi (pc := 714) O (As := [.int (xs ((a3 + 1) : Int32).toNatClampNeg), .int (xs ((a3 + 2) : Int32).toNatClampNeg)]) kc7 (c_X7_alphabet (G := X.1) e) cy_X7_alphabet tw_871 tw_872 tw_873 (by decide) rfl (Nat.le_refl _) hn (r_X7_alphabet e).1 (r_X7_alphabet e).2 rfl (Nat.le_of_ble_eq_true rfl) dL_law_714 ?_
      refine s_icmp_eq (pc := 717) O (tgt := 871) dL_law_717 (by decide) (fun c => ?_) (fun c => ?_)
      · have h := ifp c h
        exact s_sub (pc := 871) O [0, 1, 2, 3] rfl (g_L_law_871 O hi hn h hK)
      · have h := ifn c h
        refine s_iconst (pc := 720) O (v := 0) dL_law_720 (by decide) ?_
        cases h
        exact absurd (show (0 : Int32) = 1 from hK.1) (by decide)
    have h := ifn c19 h
    by_cases c20 : x = 20
    · have h := ifp c20 h
      subst c20
      refine s_tabIn (pc := 32) O (tgt := 722) dL_law_32 (by decide) (by decide) rfl (by decide) ?_
      refine s_aload_n (pc := 722) O dL_law_722 rfl 1 rfl ?_
      refine s_aload_nR (pc := 723) O dL_law_723 rfl 0 rfl ?_
      refine s_iload_n (pc := 724) O dL_law_724 rfl 3 rfl ?_
      refine s_iconst (pc := 725) O (v := 1) dL_law_725 (by decide) ?_
      refine s_iadd (pc := 726) O dL_law_726 ?_
      obtain ⟨hg, h⟩ := gd h
      refine s_sld (pc := 727) O hi hg dL_law_727 ?_
      refine s_aload_nR (pc := 728) O dL_law_728 rfl 0 rfl ?_
      refine s_iload_n (pc := 729) O dL_law_729 rfl 3 rfl ?_
      refine s_iconst (pc := 730) O (v := 2) dL_law_730 (by decide) ?_
      refine s_iadd (pc := 731) O dL_law_731 ?_
      obtain ⟨hg, h⟩ := gd h
      refine s_sld (pc := 732) O hi hg dL_law_732 ?_
      obtain ⟨v41, e, h⟩ := bd h
      refine s_callVi (pc := 733) O (As := [.int (xs ((a3 + 1) : Int32).toNatClampNeg), .int (xs ((a3 + 2) : Int32).toNatClampNeg)]) kc6 (c_X6_asked (G := X.1) e) cy_X6_asked tw_568 tw_569 tw_570 (by decide) rfl (Nat.le_refl _) hn (r_X6_asked e).1 (r_X6_asked e).2 rfl (Nat.le_of_ble_eq_true rfl) dL_law_733 ?_
      refine s_aload_n (pc := 736) O dL_law_736 rfl 2 rfl ?_
      refine s_aload_nR (pc := 737) O dL_law_737 rfl 0 rfl ?_
      refine s_iload_n (pc := 738) O dL_law_738 rfl 3 rfl ?_
      refine s_iconst (pc := 739) O (v := 1) dL_law_739 (by decide) ?_
      refine s_iadd (pc := 740) O dL_law_740 ?_
      obtain ⟨hg, h⟩ := gd h
      refine s_sld (pc := 741) O hi hg dL_law_741 ?_
      refine s_aload_nR (pc := 742) O dL_law_742 rfl 0 rfl ?_
      refine s_iload_n (pc := 743) O dL_law_743 rfl 3 rfl ?_
      refine s_iconst (pc := 744) O (v := 2) dL_law_744 (by decide) ?_
      refine s_iadd (pc := 745) O dL_law_745 ?_
      obtain ⟨hg, h⟩ := gd h
      refine s_sld (pc := 746) O hi hg dL_law_746 ?_
      obtain ⟨v42, e, h⟩ := bd h
      refine s_callVi (pc := 747) O (As := [.int (xs ((a3 + 1) : Int32).toNatClampNeg), .int (xs ((a3 + 2) : Int32).toNatClampNeg)]) kc7 (c_X7_asked (G := X.1) e) cy_X7_asked tw_882 tw_883 tw_884 (by decide) rfl (Nat.le_refl _) hn (r_X7_asked e).1 (r_X7_asked e).2 rfl (Nat.le_of_ble_eq_true rfl) dL_law_747 ?_
      refine s_icmp_eq (pc := 750) O (tgt := 871) dL_law_750 (by decide) (fun c => ?_) (fun c => ?_)
      · have h := ifp c h
        exact s_sub (pc := 871) O [0, 1, 2, 3] rfl (g_L_law_871 O hi hn h hK)
      · have h := ifn c h
        refine s_iconst (pc := 753) O (v := 0) dL_law_753 (by decide) ?_
        cases h
        exact absurd (show (0 : Int32) = 1 from hK.1) (by decide)
    have h := ifn c20 h
    by_cases c21 : x = 21
    · have h := ifp c21 h
      subst c21
      refine s_tabIn (pc := 32) O (tgt := 755) dL_law_32 (by decide) (by decide) rfl (by decide) ?_
      refine s_aload_n (pc := 755) O dL_law_755 rfl 1 rfl ?_
      refine s_aload_nR (pc := 756) O dL_law_756 rfl 0 rfl ?_
      refine s_iload_n (pc := 757) O dL_law_757 rfl 3 rfl ?_
      refine s_iconst (pc := 758) O (v := 1) dL_law_758 (by decide) ?_
      refine s_iadd (pc := 759) O dL_law_759 ?_
      obtain ⟨hg, h⟩ := gd h
      refine s_sld (pc := 760) O hi hg dL_law_760 ?_
      refine s_aload_nR (pc := 761) O dL_law_761 rfl 0 rfl ?_
      refine s_iload_n (pc := 762) O dL_law_762 rfl 3 rfl ?_
      refine s_iconst (pc := 763) O (v := 2) dL_law_763 (by decide) ?_
      refine s_iadd (pc := 764) O dL_law_764 ?_
      obtain ⟨hg, h⟩ := gd h
      refine s_sld (pc := 765) O hi hg dL_law_765 ?_
      obtain ⟨v43, e, h⟩ := bd h
      obtain ⟨hg, h⟩ := gd h
      refine s_callVi (pc := 766) O (As := [.int (xs ((a3 + 1) : Int32).toNatClampNeg), .int (xs ((a3 + 2) : Int32).toNatClampNeg)]) kc6 (c_X6_rate (G := X.1) e (Nat.le_of_eq hg.symm)) cy_X6_rate tw_578 tw_579 tw_580 (by decide) rfl (Nat.le_of_eq hg.symm) (by rw [hg]; exact hn) (r_X6_rate e).1 (r_X6_rate e).2 rfl (Nat.le_of_ble_eq_true rfl) dL_law_766 ?_
      have hn : v43.2.1 ≤ lim := by rw [hg]; exact hn
      refine s_aload_n (pc := 769) O dL_law_769 rfl 2 rfl ?_
      refine s_aload_nR (pc := 770) O dL_law_770 rfl 0 rfl ?_
      refine s_iload_n (pc := 771) O dL_law_771 rfl 3 rfl ?_
      refine s_iconst (pc := 772) O (v := 1) dL_law_772 (by decide) ?_
      refine s_iadd (pc := 773) O dL_law_773 ?_
      obtain ⟨hg, h⟩ := gd h
      refine s_sld (pc := 774) O hi hg dL_law_774 ?_
      refine s_aload_nR (pc := 775) O dL_law_775 rfl 0 rfl ?_
      refine s_iload_n (pc := 776) O dL_law_776 rfl 3 rfl ?_
      refine s_iconst (pc := 777) O (v := 2) dL_law_777 (by decide) ?_
      refine s_iadd (pc := 778) O dL_law_778 ?_
      obtain ⟨hg, h⟩ := gd h
      refine s_sld (pc := 779) O hi hg dL_law_779 ?_
      obtain ⟨v44, e, h⟩ := bd h
      obtain ⟨hg, h⟩ := gd h
      refine s_callVi (pc := 780) O (As := [.int (xs ((a3 + 1) : Int32).toNatClampNeg), .int (xs ((a3 + 2) : Int32).toNatClampNeg)]) kc7 (c_X7_rate (G := X.1) e (Nat.le_of_eq hg.symm)) cy_X7_rate tw_886 tw_887 tw_888 (by decide) rfl (Nat.le_of_eq hg.symm) (by rw [hg]; exact hn) (r_X7_rate e).1 (r_X7_rate e).2 rfl (Nat.le_of_ble_eq_true rfl) dL_law_780 ?_
      have hn : v44.2.1 ≤ lim := by rw [hg]; exact hn
      refine s_icmp_eq (pc := 783) O (tgt := 871) dL_law_783 (by decide) (fun c => ?_) (fun c => ?_)
      · have h := ifp c h
        exact s_sub (pc := 871) O [0, 1, 2, 3] rfl (g_L_law_871 O hi hn h hK)
      · have h := ifn c h
        refine s_iconst (pc := 786) O (v := 0) dL_law_786 (by decide) ?_
        cases h
        exact absurd (show (0 : Int32) = 1 from hK.1) (by decide)
    have h := ifn c21 h
    by_cases c22 : x = 22
    · have h := ifp c22 h
      subst c22
      refine s_tabIn (pc := 32) O (tgt := 788) dL_law_32 (by decide) (by decide) rfl (by decide) ?_
      refine s_aload_n (pc := 788) O dL_law_788 rfl 1 rfl ?_
      refine s_aload_nR (pc := 789) O dL_law_789 rfl 0 rfl ?_
      refine s_iload_n (pc := 790) O dL_law_790 rfl 3 rfl ?_
      refine s_iconst (pc := 791) O (v := 1) dL_law_791 (by decide) ?_
      refine s_iadd (pc := 792) O dL_law_792 ?_
      obtain ⟨hg, h⟩ := gd h
      refine s_sld (pc := 793) O hi hg dL_law_793 ?_
      obtain ⟨v45, e, h⟩ := bd h
      obtain ⟨hg, h⟩ := gd h
      refine s_callVi (pc := 794) O (As := [.int (xs ((a3 + 1) : Int32).toNatClampNeg)]) kc6 (c_X6_keep (G := X.1) e (Nat.le_of_eq hg.symm)) cy_X6_keep tw_616 tw_617 tw_618 (by decide) rfl (Nat.le_of_eq hg.symm) (by rw [hg]; exact hn) (r_X6_keep e).1 (r_X6_keep e).2 rfl (Nat.le_of_ble_eq_true rfl) dL_law_794 ?_
      have hn : v45.2.1 ≤ lim := by rw [hg]; exact hn
      refine s_aload_n (pc := 797) O dL_law_797 rfl 2 rfl ?_
      refine s_aload_nR (pc := 798) O dL_law_798 rfl 0 rfl ?_
      refine s_iload_n (pc := 799) O dL_law_799 rfl 3 rfl ?_
      refine s_iconst (pc := 800) O (v := 1) dL_law_800 (by decide) ?_
      refine s_iadd (pc := 801) O dL_law_801 ?_
      obtain ⟨hg, h⟩ := gd h
      refine s_sld (pc := 802) O hi hg dL_law_802 ?_
      obtain ⟨v46, e, h⟩ := bd h
      obtain ⟨hg, h⟩ := gd h
      refine s_callVi (pc := 803) O (As := [.int (xs ((a3 + 1) : Int32).toNatClampNeg)]) kc7 (c_X7_keep (G := X.1) e (Nat.le_of_eq hg.symm)) cy_X7_keep tw_900 tw_901 tw_902 (by decide) rfl (Nat.le_of_eq hg.symm) (by rw [hg]; exact hn) (r_X7_keep e).1 (r_X7_keep e).2 rfl (Nat.le_of_ble_eq_true rfl) dL_law_803 ?_
      have hn : v46.2.1 ≤ lim := by rw [hg]; exact hn
      refine s_icmp_eq (pc := 806) O (tgt := 871) dL_law_806 (by decide) (fun c => ?_) (fun c => ?_)
      · have h := ifp c h
        exact s_sub (pc := 871) O [0, 1, 2, 3] rfl (g_L_law_871 O hi hn h hK)
      · have h := ifn c h
        refine s_iconst (pc := 809) O (v := 0) dL_law_809 (by decide) ?_
        cases h
        exact absurd (show (0 : Int32) = 1 from hK.1) (by decide)
    have h := ifn c22 h
    by_cases c23 : x = 23
    · have h := ifp c23 h
      subst c23
      refine s_tabIn (pc := 32) O (tgt := 811) dL_law_32 (by decide) (by decide) rfl (by decide) ?_
      refine s_aload_n (pc := 811) O dL_law_811 rfl 1 rfl ?_
      refine s_aload_nR (pc := 812) O dL_law_812 rfl 0 rfl ?_
      refine s_iload_n (pc := 813) O dL_law_813 rfl 3 rfl ?_
      refine s_iconst (pc := 814) O (v := 1) dL_law_814 (by decide) ?_
      refine s_iadd (pc := 815) O dL_law_815 ?_
      obtain ⟨hg, h⟩ := gd h
      refine s_sld (pc := 816) O hi hg dL_law_816 ?_
      obtain ⟨v47, e, h⟩ := bd h
      obtain ⟨hg, h⟩ := gd h
      refine s_callVi (pc := 817) O (As := [.int (xs ((a3 + 1) : Int32).toNatClampNeg)]) kc6 (c_X6_back (G := X.1) e (Nat.le_of_eq hg.symm)) cy_X6_back tw_624 tw_625 tw_626 (by decide) rfl (Nat.le_of_eq hg.symm) (by rw [hg]; exact hn) (r_X6_back e).1 (r_X6_back e).2 rfl (Nat.le_of_ble_eq_true rfl) dL_law_817 ?_
      have hn : v47.2.1 ≤ lim := by rw [hg]; exact hn
      refine s_aload_n (pc := 820) O dL_law_820 rfl 2 rfl ?_
      refine s_aload_nR (pc := 821) O dL_law_821 rfl 0 rfl ?_
      refine s_iload_n (pc := 822) O dL_law_822 rfl 3 rfl ?_
      refine s_iconst (pc := 823) O (v := 1) dL_law_823 (by decide) ?_
      refine s_iadd (pc := 824) O dL_law_824 ?_
      obtain ⟨hg, h⟩ := gd h
      refine s_sld (pc := 825) O hi hg dL_law_825 ?_
      obtain ⟨v48, e, h⟩ := bd h
      obtain ⟨hg, h⟩ := gd h
      refine s_callVi (pc := 826) O (As := [.int (xs ((a3 + 1) : Int32).toNatClampNeg)]) kc7 (c_X7_back (G := X.1) e (Nat.le_of_eq hg.symm)) cy_X7_back tw_904 tw_905 tw_906 (by decide) rfl (Nat.le_of_eq hg.symm) (by rw [hg]; exact hn) (r_X7_back e).1 (r_X7_back e).2 rfl (Nat.le_of_ble_eq_true rfl) dL_law_826 ?_
      have hn : v48.2.1 ≤ lim := by rw [hg]; exact hn
      refine s_icmp_eq (pc := 829) O (tgt := 871) dL_law_829 (by decide) (fun c => ?_) (fun c => ?_)
      · have h := ifp c h
        exact s_sub (pc := 871) O [0, 1, 2, 3] rfl (g_L_law_871 O hi hn h hK)
      · have h := ifn c h
        refine s_iconst (pc := 832) O (v := 0) dL_law_832 (by decide) ?_
        cases h
        exact absurd (show (0 : Int32) = 1 from hK.1) (by decide)
    have h := ifn c23 h
    by_cases c24 : x = 24
    · have h := ifp c24 h
      subst c24
      refine s_tabIn (pc := 32) O (tgt := 834) dL_law_32 (by decide) (by decide) rfl (by decide) ?_
      refine s_aload_n (pc := 834) O dL_law_834 rfl 1 rfl ?_
      refine s_aload_nR (pc := 835) O dL_law_835 rfl 0 rfl ?_
      refine s_iload_n (pc := 836) O dL_law_836 rfl 3 rfl ?_
      refine s_iconst (pc := 837) O (v := 1) dL_law_837 (by decide) ?_
      refine s_iadd (pc := 838) O dL_law_838 ?_
      obtain ⟨hg, h⟩ := gd h
      refine s_sld (pc := 839) O hi hg dL_law_839 ?_
      obtain ⟨v49, e, h⟩ := bd h
      refine s_callVi (pc := 840) O (As := [.int (xs ((a3 + 1) : Int32).toNatClampNeg)]) kc6 (c_X6_count (G := X.1) e) cy_X6_count tw_628 tw_629 tw_630 (by decide) rfl (Nat.le_refl _) hn (r_X6_count e).1 (r_X6_count e).2 rfl (Nat.le_of_ble_eq_true rfl) dL_law_840 ?_
      refine s_aload_n (pc := 843) O dL_law_843 rfl 2 rfl ?_
      refine s_aload_nR (pc := 844) O dL_law_844 rfl 0 rfl ?_
      refine s_iload_n (pc := 845) O dL_law_845 rfl 3 rfl ?_
      refine s_iconst (pc := 846) O (v := 1) dL_law_846 (by decide) ?_
      refine s_iadd (pc := 847) O dL_law_847 ?_
      obtain ⟨hg, h⟩ := gd h
      refine s_sld (pc := 848) O hi hg dL_law_848 ?_
      obtain ⟨v50, e, h⟩ := bd h
      refine s_callVi (pc := 849) O (As := [.int (xs ((a3 + 1) : Int32).toNatClampNeg)]) kc7 (c_X7_count (G := X.1) e) cy_X7_count tw_908 tw_909 tw_910 (by decide) rfl (Nat.le_refl _) hn (r_X7_count e).1 (r_X7_count e).2 rfl (Nat.le_of_ble_eq_true rfl) dL_law_849 ?_
      refine s_icmp_eq (pc := 852) O (tgt := 871) dL_law_852 (by decide) (fun c => ?_) (fun c => ?_)
      · have h := ifp c h
        exact s_sub (pc := 871) O [0, 1, 2, 3] rfl (g_L_law_871 O hi hn h hK)
      · have h := ifn c h
        refine s_iconst (pc := 855) O (v := 0) dL_law_855 (by decide) ?_
        cases h
        exact absurd (show (0 : Int32) = 1 from hK.1) (by decide)
    have h := ifn c24 h
    by_cases c25 : x = 25
    · have h := ifp c25 h
      subst c25
      refine s_tabIn (pc := 32) O (tgt := 857) dL_law_32 (by decide) (by decide) rfl (by decide) ?_
      refine s_aload_n (pc := 857) O dL_law_857 rfl 1 rfl ?_
      obtain ⟨v51, e, h⟩ := bd h
      refine s_callVl (pc := 858) O (As := []) kc6 (c_X6_trace (G := X.1) e) cy_X6_trace tw_632 tw_633 tw_634 (by decide) rfl (Nat.le_refl _) hn (r_X6_trace e).1 (r_X6_trace e).2 rfl (Nat.le_of_ble_eq_true rfl) dL_law_858 ?_
      refine s_aload_n (pc := 861) O dL_law_861 rfl 2 rfl ?_
      obtain ⟨v52, e, h⟩ := bd h
      refine s_callVl (pc := 862) O (As := []) kc7 (c_X7_trace (G := X.1) e) cy_X7_trace tw_912 tw_913 tw_914 (by decide) rfl (Nat.le_refl _) hn (r_X7_trace e).1 (r_X7_trace e).2 rfl (Nat.le_of_ble_eq_true rfl) dL_law_862 ?_
      refine s_lcmp (pc := 865) O dL_law_865 ?_
      refine s_if_eq (pc := 866) O (tgt := 871) dL_law_866 (by decide) (fun c => ?_) (fun c => ?_)
      · have h := ifp c h
        exact s_sub (pc := 871) O [0, 1, 2, 3] rfl (g_L_law_871 O hi hn h hK)
      · have h := ifn c h
        refine s_iconst (pc := 869) O (v := 0) dL_law_869 (by decide) ?_
        cases h
        exact absurd (show (0 : Int32) = 1 from hK.1) (by decide)
    have h := ifn c25 h
    refine s_tabOut (pc := 32) O (tgt := 871) dL_law_32 (by have := i32_neK (n := 0) (by decide) c0; have := i32_neK (n := 1) (by decide) c1; have := i32_neK (n := 2) (by decide) c2; have := i32_neK (n := 3) (by decide) c3; have := i32_neK (n := 4) (by decide) c4; have := i32_neK (n := 5) (by decide) c5; have := i32_neK (n := 6) (by decide) c6; have := i32_neK (n := 7) (by decide) c7; have := i32_neK (n := 8) (by decide) c8; have := i32_neK (n := 9) (by decide) c9; have := i32_neK (n := 10) (by decide) c10; have := i32_neK (n := 11) (by decide) c11; have := i32_neK (n := 12) (by decide) c12; have := i32_neK (n := 13) (by decide) c13; have := i32_neK (n := 14) (by decide) c14; have := i32_neK (n := 15) (by decide) c15; have := i32_neK (n := 16) (by decide) c16; have := i32_neK (n := 17) (by decide) c17; have := i32_neK (n := 18) (by decide) c18; have := i32_neK (n := 19) (by decide) c19; have := i32_neK (n := 20) (by decide) c20; have := i32_neK (n := 21) (by decide) c21; have := i32_neK (n := 22) (by decide) c22; have := i32_neK (n := 23) (by decide) c23; have := i32_neK (n := 24) (by decide) c24; have := i32_neK (n := 25) (by decide) c25; omega) (by decide) ?_
    exact s_sub (pc := 871) O [0, 1, 2, 3] rfl (g_L_law_871 O hi hn h hK)
set_option maxHeartbeats 4000000 in
set_option maxRecDepth 100000 in
theorem l_L_law_18 {X : CT} {lim : Nat} {bs L : Nat} {xs : Nat → Int32} {M : MM} {p1 : Nat} {p2 : Nat} {a3 : Int32} (O : OKX X cL_law RL 12 lim 4) (hi : XSC X bs L xs) (hn : M.1 ≤ lim) {o : Int32 × MM} {n : Nat} (h : lp (fun t => z_L_law_18 lim L xs t.2 p1 p2 t.1) n (a3, M) = some o) (hK : (fun (q : Int32 × MM) => q.1 = 1 ∧ LWQ X) o) : WS X M 18 [(0, .ref bs), (1, rf X.1 p1), (2, rf X.1 p2), (3, .int a3)] [] := by
  refine lp_ind (P := fun (o : Int32 × MM) (t : Int32 × MM) => t.2.1 ≤ lim → (fun (q : Int32 × MM) => q.1 = 1 ∧ LWQ X) o → WS X t.2 18 [(0, .ref bs), (1, rf X.1 p1), (2, rf X.1 p2), (3, .int t.1)] []) (fun t o hs hn hK => ?_) n (a3, M) o h hn hK
  rcases hs with h | ⟨u, h, hu⟩
  · exact b_L_law_18 O hi hn h hK
  · exact b_L_law_18 O hi hn h (show KI _ _ (.inr u) from fun hn => hu hn hK)
def f_L_law (lim : Nat) (L : Nat) (xs : Nat → Int32) (M : MM) : Option (Int32 × MM) :=
  (nObj M lim 6).bind fun M1 => (f_X6_init (M1.1 + 80) M1 M.1).bind fun M2 => if M2.1 = M1.1 + 80 ∧ M1.1 + 80 ≤ lim then ((nObj M2 lim 7).bind fun M3 => (f_X7_init (M3.1 + 11) M3 M2.1).bind fun M4 => if M4.1 = M3.1 + 11 ∧ M3.1 + 11 ≤ lim then (lp (fun t => z_L_law_18 lim L xs t.2 M.1 M2.1 t.1) FU (0, M4)) else none) else none
set_option maxHeartbeats 4000000 in
set_option maxRecDepth 100000 in
theorem c_L_law {X : CT} {lim : Nat} {bs L : Nat} {xs : Nat → Int32} {M M' : MM} (O : OKX X cL_law RL 12 lim 4) (hi : XSC X bs L xs) (hn : M.1 ≤ lim) (h : f_L_law lim L xs M = some (1, M')) (hQ : LWQ X) : WS X M 0 [(0, .ref bs)] [] := by
  have hK : (fun (q : Int32 × MM) => q.1 = 1 ∧ LWQ X) (1, M') := ⟨rfl, hQ⟩
  unfold f_L_law at h
  obtain ⟨M1, e, h⟩ := bd h
  refine s_new (pc := 0) O kc6 (by decide) tw_54 tw_55 tw_40 e dL_law_0 ?_
  have hn : M1.1 ≤ lim := nObj_n e
  refine s_dup (pc := 3) O dL_law_3 rfl ?_
  obtain ⟨M2, e, h⟩ := bd h
  obtain ⟨hg, h⟩ := gd h
  rw [← hg.1] at e
  refine s_callIv (pc := 4) O (As := []) (c_X6_init (G := X.1) e (by rw [hg.1]; omega)) cy_X6_init tw_56 tw_57 rfl (by decide) rfl (by rw [hg.1]; omega) (by rw [hg.1]; exact hg.2) rfl (Nat.le_of_ble_eq_true rfl) dL_law_4 ?_
  have hn : M2.1 ≤ lim := by rw [hg.1]; exact hg.2
  refine s_astore_n (pc := 7) O (loc' := [(1, rf X.1 M.1), (0, .ref bs)]) dL_law_7 rfl (by decide) rfl ?_
  obtain ⟨M3, e, h⟩ := bd h
  refine s_new (pc := 8) O kc7 (by decide) tw_636 tw_637 tw_47 e dL_law_8 ?_
  have hn : M3.1 ≤ lim := nObj_n e
  refine s_dup (pc := 11) O dL_law_11 rfl ?_
  obtain ⟨M4, e, h⟩ := bd h
  obtain ⟨hg, h⟩ := gd h
  rw [← hg.1] at e
  refine s_callIv (pc := 12) O (As := []) (c_X7_init (G := X.1) e (by rw [hg.1]; omega)) cy_X7_init tw_638 tw_639 rfl (by decide) rfl (by rw [hg.1]; omega) (by rw [hg.1]; exact hg.2) rfl (Nat.le_of_ble_eq_true rfl) dL_law_12 ?_
  have hn : M4.1 ≤ lim := by rw [hg.1]; exact hg.2
  refine s_astore_n (pc := 15) O (loc' := [(2, rf X.1 M2.1), (1, rf X.1 M.1), (0, .ref bs)]) dL_law_15 rfl (by decide) rfl ?_
  refine s_iconst (pc := 16) O (v := 0) dL_law_16 (by decide) ?_
  refine s_istore_n (pc := 17) O (loc' := [(3, .int 0), (2, rf X.1 M2.1), (1, rf X.1 M.1), (0, .ref bs)]) dL_law_17 rfl (by decide) rfl ?_
  exact s_sub (pc := 18) O [3, 2, 1, 0] rfl (l_L_law_18 O hi hn h hK)
