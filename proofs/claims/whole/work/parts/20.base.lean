/-! PURE: reading and writing the memory, at fixed places -/
theorem kdv_0 : kd 0 = 6 := by decide
theorem kdv_1 : kd 1 = 3 := by decide
theorem kdv_2 : kd 2 = 8 := by decide
theorem kdv_3 : kd 3 = 1 := by decide
theorem kdv_4 : kd 4 = 10 := by decide
theorem kdv_5 : kd 5 = 8 := by decide
theorem kdv_6 : kd 6 = 8 := by decide
theorem kdv_7 : kd 7 = 8 := by decide
theorem kdv_8 : kd 8 = 8 := by decide
theorem kdv_9 : kd 9 = 9 := by decide
theorem kdv_10 : kd 10 = 8 := by decide
theorem kdv_11 : kd 11 = 8 := by decide
theorem kdv_12 : kd 12 = 8 := by decide
theorem kdv_13 : kd 13 = 8 := by decide
theorem kdv_14 : kd 14 = 8 := by decide
theorem kdv_15 : kd 15 = 8 := by decide
theorem kdv_16 : kd 16 = 0 := by decide
theorem kdv_17 : kd 17 = 8 := by decide
theorem kdv_18 : kd 18 = 11 := by decide
theorem kdv_19 : kd 19 = 0 := by decide
theorem kdv_20 : kd 20 = 8 := by decide
theorem kdv_21 : kd 21 = 0 := by decide
theorem kdv_22 : kd 22 = 8 := by decide
theorem kdv_23 : kd 23 = 4 := by decide
theorem kdv_24 : kd 24 = 13 := by decide
theorem kdv_25 : kd 25 = 12 := by decide
theorem kdv_26 : kd 26 = 5 := by decide
theorem kdv_27 : kd 27 = 8 := by decide
theorem kdv_28 : kd 28 = 5 := by decide
theorem kdv_29 : kd 29 = 8 := by decide
theorem kdv_30 : kd 30 = 5 := by decide
theorem kdv_31 : kd 31 = 8 := by decide
theorem kdv_32 : kd 32 = 5 := by decide
theorem kdv_33 : kd 33 = 8 := by decide
theorem kdv_34 : kd 34 = 5 := by decide
theorem kdv_35 : kd 35 = 8 := by decide
theorem kdv_36 : kd 36 = 5 := by decide
theorem kdv_37 : kd 37 = 8 := by decide
theorem kdv_38 : kd 38 = 5 := by decide
theorem kdv_39 : kd 39 = 8 := by decide
theorem kdv_40 : kd 40 = 5 := by decide
theorem kdv_41 : kd 41 = 8 := by decide
theorem kdv_42 : kd 42 = 5 := by decide
theorem kdv_43 : kd 43 = 8 := by decide
theorem kdv_44 : kd 44 = 2 := by decide
theorem kdv_45 : kd 45 = 8 := by decide
theorem kdv_46 : kd 46 = 2 := by decide
theorem kdv_47 : kd 47 = 8 := by decide
theorem kdv_48 : kd 48 = 2 := by decide
theorem kdv_49 : kd 49 = 8 := by decide
theorem kdv_50 : kd 50 = 2 := by decide
theorem kdv_51 : kd 51 = 8 := by decide
theorem kdv_52 : kd 52 = 4 := by decide
theorem kdv_53 : kd 53 = 13 := by decide
theorem kdv_54 : kd 54 = 12 := by decide
theorem kdv_55 : kd 55 = 5 := by decide
theorem kdv_56 : kd 56 = 8 := by decide
theorem kdv_57 : kd 57 = 5 := by decide
theorem kdv_58 : kd 58 = 8 := by decide
theorem kdv_59 : kd 59 = 5 := by decide
theorem kdv_60 : kd 60 = 8 := by decide
theorem kdv_61 : kd 61 = 5 := by decide
theorem kdv_62 : kd 62 = 8 := by decide
theorem kdv_63 : kd 63 = 5 := by decide
theorem kdv_64 : kd 64 = 8 := by decide
theorem kdv_65 : kd 65 = 5 := by decide
theorem kdv_66 : kd 66 = 8 := by decide
theorem kdv_67 : kd 67 = 5 := by decide
theorem kdv_68 : kd 68 = 8 := by decide
theorem kdv_69 : kd 69 = 5 := by decide
theorem kdv_70 : kd 70 = 8 := by decide
theorem kdv_71 : kd 71 = 5 := by decide
theorem kdv_72 : kd 72 = 8 := by decide
theorem kdv_73 : kd 73 = 2 := by decide
theorem kdv_74 : kd 74 = 8 := by decide
theorem kdv_75 : kd 75 = 2 := by decide
theorem kdv_76 : kd 76 = 8 := by decide
theorem kdv_77 : kd 77 = 2 := by decide
theorem kdv_78 : kd 78 = 8 := by decide
theorem kdv_79 : kd 79 = 2 := by decide
theorem kdv_80 : kd 80 = 8 := by decide
theorem kdv_81 : kd 81 = 7 := by decide
theorem kdv_82 : kd 82 = 8 := by decide
theorem kdv_83 : kd 83 = 8 := by decide
theorem kdv_84 : kd 84 = 8 := by decide
theorem kdv_85 : kd 85 = 8 := by decide
theorem kdv_86 : kd 86 = 8 := by decide
theorem kdv_87 : kd 87 = 10 := by decide
theorem kdv_88 : kd 88 = 8 := by decide
theorem kdv_89 : kd 89 = 8 := by decide
theorem kdv_90 : kd 90 = 8 := by decide
theorem kdv_91 : kd 91 = 8 := by decide
theorem kdv_92 : kd 92 = 8 := by decide
theorem lnv_2 : ln 2 = 200 := by decide
theorem lnv_4 : ln 4 = 1000 := by decide
theorem lnv_5 : ln 5 = 1000 := by decide
theorem lnv_6 : ln 6 = 1000 := by decide
theorem lnv_7 : ln 7 = 1000 := by decide
theorem lnv_8 : ln 8 = 1000 := by decide
theorem lnv_9 : ln 9 = 1000 := by decide
theorem lnv_10 : ln 10 = 1000 := by decide
theorem lnv_11 : ln 11 = 1000 := by decide
theorem lnv_12 : ln 12 = 256 := by decide
theorem lnv_13 : ln 13 = 1000 := by decide
theorem lnv_14 : ln 14 = 1000 := by decide
theorem lnv_15 : ln 15 = 1000 := by decide
theorem lnv_17 : ln 17 = 12 := by decide
theorem lnv_18 : ln 18 = 2 := by decide
theorem lnv_20 : ln 20 = 12 := by decide
theorem lnv_22 : ln 22 = 12 := by decide
theorem lnv_24 : ln 24 = 9 := by decide
theorem lnv_25 : ln 25 = 4 := by decide
theorem lnv_27 : ln 27 = 5 := by decide
theorem lnv_29 : ln 29 = 5 := by decide
theorem lnv_31 : ln 31 = 5 := by decide
theorem lnv_33 : ln 33 = 5 := by decide
theorem lnv_35 : ln 35 = 5 := by decide
theorem lnv_37 : ln 37 = 5 := by decide
theorem lnv_39 : ln 39 = 5 := by decide
theorem lnv_41 : ln 41 = 5 := by decide
theorem lnv_43 : ln 43 = 5 := by decide
theorem lnv_45 : ln 45 = 3 := by decide
theorem lnv_47 : ln 47 = 3 := by decide
theorem lnv_49 : ln 49 = 3 := by decide
theorem lnv_51 : ln 51 = 3 := by decide
theorem lnv_53 : ln 53 = 9 := by decide
theorem lnv_54 : ln 54 = 4 := by decide
theorem lnv_56 : ln 56 = 5 := by decide
theorem lnv_58 : ln 58 = 5 := by decide
theorem lnv_60 : ln 60 = 5 := by decide
theorem lnv_62 : ln 62 = 5 := by decide
theorem lnv_64 : ln 64 = 5 := by decide
theorem lnv_66 : ln 66 = 5 := by decide
theorem lnv_68 : ln 68 = 5 := by decide
theorem lnv_70 : ln 70 = 5 := by decide
theorem lnv_72 : ln 72 = 5 := by decide
theorem lnv_74 : ln 74 = 3 := by decide
theorem lnv_76 : ln 76 = 3 := by decide
theorem lnv_78 : ln 78 = 3 := by decide
theorem lnv_80 : ln 80 = 3 := by decide
theorem lnv_82 : ln 82 = 200 := by decide
theorem lnv_83 : ln 83 = 110 := by decide
theorem lnv_84 : ln 84 = 110 := by decide
theorem lnv_85 : ln 85 = 13 := by decide
theorem lnv_86 : ln 86 = 26 := by decide
theorem lnv_87 : ln 87 = 2 := by decide
theorem lnv_88 : ln 88 = 820 := by decide
theorem lnv_89 : ln 89 = 820 := by decide
theorem lnv_90 : ln 90 = 820 := by decide
theorem lnv_91 : ln 91 = 820 := by decide
theorem lnv_92 : ln 92 = 100 := by decide
theorem gI_sI {M : MM} {p j q k : Nat} {v : Int32} : gI (sI M p j v) q k = if q = p ∧ k = j then v else gI M q k := rfl
theorem gI_sJ {M : MM} {p j q k : Nat} {v : Int64} : gI (sJ M p j v) q k = gI M q k := rfl
theorem gI_sR {M : MM} {p j q k : Nat} {v : Option Nat} : gI (sR M p j v) q k = gI M q k := rfl
theorem gJ_sI {M : MM} {p j q k : Nat} {v : Int32} : gJ (sI M p j v) q k = gJ M q k := rfl
theorem gJ_sJ {M : MM} {p j q k : Nat} {v : Int64} : gJ (sJ M p j v) q k = if q = p ∧ k = j then v else gJ M q k := rfl
theorem gJ_sR {M : MM} {p j q k : Nat} {v : Option Nat} : gJ (sR M p j v) q k = gJ M q k := rfl
theorem gR_sI {M : MM} {p j q k : Nat} {v : Int32} : gR (sI M p j v) q k = gR M q k := rfl
theorem gR_sJ {M : MM} {p j q k : Nat} {v : Int64} : gR (sJ M p j v) q k = gR M q k := rfl
theorem gR_sR {M : MM} {p j q k : Nat} {v : Option Nat} : gR (sR M p j v) q k = if q = p ∧ k = j then v else gR M q k := rfl
theorem n_sI {M : MM} {p j : Nat} {v : Int32} : (sI M p j v).1 = M.1 := rfl
theorem n_sJ {M : MM} {p j : Nat} {v : Int64} : (sJ M p j v).1 = M.1 := rfl
theorem n_sR {M : MM} {p j : Nat} {v : Option Nat} : (sR M p j v).1 = M.1 := rfl
theorem fI_e {M : MM} {p c k : Nat} (hN : M.1 = 93) (hp : p < 93) (hk : (kd p == c) = true) : fI M p c k = some (gI M p k) := by simp [fI, hN, hp, eq_of_beq hk]
theorem fJ_e {M : MM} {p c k : Nat} (hN : M.1 = 93) (hp : p < 93) (hk : (kd p == c) = true) : fJ M p c k = some (gJ M p k) := by simp [fJ, hN, hp, eq_of_beq hk]
theorem fR_e {M : MM} {p c k : Nat} (hN : M.1 = 93) (hp : p < 93) (hk : (kd p == c) = true) : fR M p c k = gR M p k := by simp [fR, hN, hp, eq_of_beq hk]
theorem wfI_e {M : MM} {p c k : Nat} {v : Int32} (hN : M.1 = 93) (hp : p < 93) (hk : (kd p == c) = true) : wfI M p c k v = some (sI M p k v) := by simp [wfI, hN, hp, eq_of_beq hk]
theorem wfZ_e {M : MM} {p c k : Nat} {v : Int32} (hN : M.1 = 93) (hp : p < 93) (hk : (kd p == c) = true) (hv : v = 0 ∨ v = 1) : wfZ M p c k v = some (sI M p k v) := by simp [wfZ, hN, hp, eq_of_beq hk, hv]
theorem wfJ_e {M : MM} {p c k : Nat} {v : Int64} (hN : M.1 = 93) (hp : p < 93) (hk : (kd p == c) = true) : wfJ M p c k v = some (sJ M p k v) := by simp [wfJ, hN, hp, eq_of_beq hk]
theorem wfR_e {M : MM} {p c k v : Nat} (hN : M.1 = 93) (hp : p < 93) (hk : (kd p == c) = true) (hv : v < 93) : wfR M p c k v = some (sR M p k (some v)) := by simp [wfR, hN, hp, eq_of_beq hk, hv]
theorem nI_ok {i n : Nat} (h : i < n) (hn : n ≤ 100000) : ¬ (nI i < 0 ∨ n ≤ (nI i).toNatClampNeg) := vp_in_nI h (by omega)
theorem nI_cl {i n : Nat} (h : i < n) (hn : n ≤ 100000) : (nI i).toNatClampNeg = i := nI_clamp (by omega)
theorem aI_e {M : MM} {p i : Nat} (hN : M.1 = 93) (hp : p < 93) (hk : (kd p == 8) = true) (hi : i < ln p) : aI M p (nI i) = some (gI M p i) := by
  have h := nI_ok hi (ln_small p)
  rw [aI, if_pos ⟨by omega, eq_of_beq hk, h⟩, nI_cl hi (ln_small p)]
theorem aZ_e {M : MM} {p i : Nat} (hN : M.1 = 93) (hp : p < 93) (hk : (kd p == 10) = true) (hi : i < ln p) : aZ M p (nI i) = some (gI M p i) := by
  have h := nI_ok hi (ln_small p)
  rw [aZ, if_pos ⟨by omega, eq_of_beq hk, h⟩, nI_cl hi (ln_small p)]
theorem aJ_e {M : MM} {p i : Nat} (hN : M.1 = 93) (hp : p < 93) (hk : (kd p == 9) = true) (hi : i < ln p) : aJ M p (nI i) = some (gJ M p i) := by
  have h := nI_ok hi (ln_small p)
  rw [aJ, if_pos ⟨by omega, eq_of_beq hk, h⟩, nI_cl hi (ln_small p)]
theorem aR_e {M : MM} {p c i : Nat} (hN : M.1 = 93) (hp : p < 93) (hk : (kd p == c) = true) (hi : i < ln p) : aR M p c (nI i) = gR M p i := by
  have h := nI_ok hi (ln_small p)
  rw [aR, if_pos ⟨by omega, eq_of_beq hk, h⟩, nI_cl hi (ln_small p)]
theorem waI_e {M : MM} {p i : Nat} {v : Int32} (hN : M.1 = 93) (hp : p < 93) (hk : (kd p == 8) = true) (hi : i < ln p) : waI M p (nI i) v = some (sI M p i v) := by
  have h := nI_ok hi (ln_small p)
  rw [waI, if_pos ⟨by omega, eq_of_beq hk, h⟩, nI_cl hi (ln_small p)]
theorem waZ_e {M : MM} {p i : Nat} {v : Int32} (hN : M.1 = 93) (hp : p < 93) (hk : (kd p == 10) = true) (hi : i < ln p) (hv : v = 0 ∨ v = 1) : waZ M p (nI i) v = some (sI M p i v) := by
  have h := nI_ok hi (ln_small p)
  rw [waZ, if_pos ⟨by omega, eq_of_beq hk, h, hv⟩, nI_cl hi (ln_small p)]
theorem waJ_e {M : MM} {p i : Nat} {v : Int64} (hN : M.1 = 93) (hp : p < 93) (hk : (kd p == 9) = true) (hi : i < ln p) : waJ M p (nI i) v = some (sJ M p i v) := by
  have h := nI_ok hi (ln_small p)
  rw [waJ, if_pos ⟨by omega, eq_of_beq hk, h⟩, nI_cl hi (ln_small p)]
/-! where the references point; sp: the tongue that is spoken, dr: the draft -/
def LAY (M : MM) (sp dr : Nat) : Prop := M.1 = 93 ∧ ((sp = 23 ∧ dr = 52) ∨ (sp = 52 ∧ dr = 23)) ∧ gR M 0 0 = some 1 ∧ gR M 0 1 = some 3 ∧ gR M 0 2 = some 16 ∧ gR M 0 3 = some 18 ∧ gR M 0 4 = some sp ∧ gR M 0 5 = some dr ∧ gR M 1 0 = some 2 ∧ gR M 3 0 = some 4 ∧ gR M 3 1 = some 5 ∧ gR M 3 2 = some 6 ∧ gR M 3 3 = some 7 ∧ gR M 3 4 = some 8 ∧ gR M 3 5 = some 9 ∧ gR M 3 6 = some 10 ∧ gR M 3 7 = some 11 ∧ gR M 3 8 = some 12 ∧ gR M 3 10 = some 13 ∧ gR M 3 11 = some 14 ∧ gR M 3 12 = some 15 ∧ gR M 16 0 = some 17 ∧ gR M 18 0 = some 19 ∧ gR M 18 1 = some 21 ∧ gR M 19 0 = some 20 ∧ gR M 21 0 = some 22 ∧ gR M 81 1 = some 82 ∧ gR M 81 3 = some 83 ∧ gR M 81 4 = some 84 ∧ gR M 81 5 = some 85 ∧ gR M 81 6 = some 86 ∧ gR M 81 7 = some 87 ∧ gR M 81 8 = some 88 ∧ gR M 81 9 = some 89 ∧ gR M 81 10 = some 90 ∧ gR M 81 11 = some 91 ∧ gR M 81 17 = some 92 ∧ ∀ t, (t = 23 ∨ t = 52) → gR M t 0 = some (t + 1) ∧ gR M t 1 = some (t + 2) ∧ (∀ w, w < 9 → gR M (t + 1) w = some (t + 3 + 2 * w) ∧ gR M (t + 3 + 2 * w) 0 = some (t + 4 + 2 * w)) ∧ (∀ s, s < 4 → gR M (t + 2) s = some (t + 21 + 2 * s) ∧ gR M (t + 21 + 2 * s) 0 = some (t + 22 + 2 * s))
theorem ly_0_0 {M : MM} {sp dr : Nat} (h : LAY M sp dr) : gR M 0 0 = some 1 := h.2.2.1
theorem ly_0_1 {M : MM} {sp dr : Nat} (h : LAY M sp dr) : gR M 0 1 = some 3 := h.2.2.2.1
theorem ly_0_2 {M : MM} {sp dr : Nat} (h : LAY M sp dr) : gR M 0 2 = some 16 := h.2.2.2.2.1
theorem ly_0_3 {M : MM} {sp dr : Nat} (h : LAY M sp dr) : gR M 0 3 = some 18 := h.2.2.2.2.2.1
theorem ly_0_4 {M : MM} {sp dr : Nat} (h : LAY M sp dr) : gR M 0 4 = some sp := h.2.2.2.2.2.2.1
theorem ly_0_5 {M : MM} {sp dr : Nat} (h : LAY M sp dr) : gR M 0 5 = some dr := h.2.2.2.2.2.2.2.1
theorem ly_1_0 {M : MM} {sp dr : Nat} (h : LAY M sp dr) : gR M 1 0 = some 2 := h.2.2.2.2.2.2.2.2.1
theorem ly_3_0 {M : MM} {sp dr : Nat} (h : LAY M sp dr) : gR M 3 0 = some 4 := h.2.2.2.2.2.2.2.2.2.1
theorem ly_3_1 {M : MM} {sp dr : Nat} (h : LAY M sp dr) : gR M 3 1 = some 5 := h.2.2.2.2.2.2.2.2.2.2.1
theorem ly_3_2 {M : MM} {sp dr : Nat} (h : LAY M sp dr) : gR M 3 2 = some 6 := h.2.2.2.2.2.2.2.2.2.2.2.1
theorem ly_3_3 {M : MM} {sp dr : Nat} (h : LAY M sp dr) : gR M 3 3 = some 7 := h.2.2.2.2.2.2.2.2.2.2.2.2.1
theorem ly_3_4 {M : MM} {sp dr : Nat} (h : LAY M sp dr) : gR M 3 4 = some 8 := h.2.2.2.2.2.2.2.2.2.2.2.2.2.1
theorem ly_3_5 {M : MM} {sp dr : Nat} (h : LAY M sp dr) : gR M 3 5 = some 9 := h.2.2.2.2.2.2.2.2.2.2.2.2.2.2.1
theorem ly_3_6 {M : MM} {sp dr : Nat} (h : LAY M sp dr) : gR M 3 6 = some 10 := h.2.2.2.2.2.2.2.2.2.2.2.2.2.2.2.1
theorem ly_3_7 {M : MM} {sp dr : Nat} (h : LAY M sp dr) : gR M 3 7 = some 11 := h.2.2.2.2.2.2.2.2.2.2.2.2.2.2.2.2.1
theorem ly_3_8 {M : MM} {sp dr : Nat} (h : LAY M sp dr) : gR M 3 8 = some 12 := h.2.2.2.2.2.2.2.2.2.2.2.2.2.2.2.2.2.1
theorem ly_3_10 {M : MM} {sp dr : Nat} (h : LAY M sp dr) : gR M 3 10 = some 13 := h.2.2.2.2.2.2.2.2.2.2.2.2.2.2.2.2.2.2.1
theorem ly_3_11 {M : MM} {sp dr : Nat} (h : LAY M sp dr) : gR M 3 11 = some 14 := h.2.2.2.2.2.2.2.2.2.2.2.2.2.2.2.2.2.2.2.1
theorem ly_3_12 {M : MM} {sp dr : Nat} (h : LAY M sp dr) : gR M 3 12 = some 15 := h.2.2.2.2.2.2.2.2.2.2.2.2.2.2.2.2.2.2.2.2.1
theorem ly_16_0 {M : MM} {sp dr : Nat} (h : LAY M sp dr) : gR M 16 0 = some 17 := h.2.2.2.2.2.2.2.2.2.2.2.2.2.2.2.2.2.2.2.2.2.1
theorem ly_18_0 {M : MM} {sp dr : Nat} (h : LAY M sp dr) : gR M 18 0 = some 19 := h.2.2.2.2.2.2.2.2.2.2.2.2.2.2.2.2.2.2.2.2.2.2.1
theorem ly_18_1 {M : MM} {sp dr : Nat} (h : LAY M sp dr) : gR M 18 1 = some 21 := h.2.2.2.2.2.2.2.2.2.2.2.2.2.2.2.2.2.2.2.2.2.2.2.1
theorem ly_19_0 {M : MM} {sp dr : Nat} (h : LAY M sp dr) : gR M 19 0 = some 20 := h.2.2.2.2.2.2.2.2.2.2.2.2.2.2.2.2.2.2.2.2.2.2.2.2.1
theorem ly_21_0 {M : MM} {sp dr : Nat} (h : LAY M sp dr) : gR M 21 0 = some 22 := h.2.2.2.2.2.2.2.2.2.2.2.2.2.2.2.2.2.2.2.2.2.2.2.2.2.1
theorem ly_81_1 {M : MM} {sp dr : Nat} (h : LAY M sp dr) : gR M 81 1 = some 82 := h.2.2.2.2.2.2.2.2.2.2.2.2.2.2.2.2.2.2.2.2.2.2.2.2.2.2.1
theorem ly_81_3 {M : MM} {sp dr : Nat} (h : LAY M sp dr) : gR M 81 3 = some 83 := h.2.2.2.2.2.2.2.2.2.2.2.2.2.2.2.2.2.2.2.2.2.2.2.2.2.2.2.1
theorem ly_81_4 {M : MM} {sp dr : Nat} (h : LAY M sp dr) : gR M 81 4 = some 84 := h.2.2.2.2.2.2.2.2.2.2.2.2.2.2.2.2.2.2.2.2.2.2.2.2.2.2.2.2.1
theorem ly_81_5 {M : MM} {sp dr : Nat} (h : LAY M sp dr) : gR M 81 5 = some 85 := h.2.2.2.2.2.2.2.2.2.2.2.2.2.2.2.2.2.2.2.2.2.2.2.2.2.2.2.2.2.1
theorem ly_81_6 {M : MM} {sp dr : Nat} (h : LAY M sp dr) : gR M 81 6 = some 86 := h.2.2.2.2.2.2.2.2.2.2.2.2.2.2.2.2.2.2.2.2.2.2.2.2.2.2.2.2.2.2.1
theorem ly_81_7 {M : MM} {sp dr : Nat} (h : LAY M sp dr) : gR M 81 7 = some 87 := h.2.2.2.2.2.2.2.2.2.2.2.2.2.2.2.2.2.2.2.2.2.2.2.2.2.2.2.2.2.2.2.1
theorem ly_81_8 {M : MM} {sp dr : Nat} (h : LAY M sp dr) : gR M 81 8 = some 88 := h.2.2.2.2.2.2.2.2.2.2.2.2.2.2.2.2.2.2.2.2.2.2.2.2.2.2.2.2.2.2.2.2.1
theorem ly_81_9 {M : MM} {sp dr : Nat} (h : LAY M sp dr) : gR M 81 9 = some 89 := h.2.2.2.2.2.2.2.2.2.2.2.2.2.2.2.2.2.2.2.2.2.2.2.2.2.2.2.2.2.2.2.2.2.1
theorem ly_81_10 {M : MM} {sp dr : Nat} (h : LAY M sp dr) : gR M 81 10 = some 90 := h.2.2.2.2.2.2.2.2.2.2.2.2.2.2.2.2.2.2.2.2.2.2.2.2.2.2.2.2.2.2.2.2.2.2.1
theorem ly_81_11 {M : MM} {sp dr : Nat} (h : LAY M sp dr) : gR M 81 11 = some 91 := h.2.2.2.2.2.2.2.2.2.2.2.2.2.2.2.2.2.2.2.2.2.2.2.2.2.2.2.2.2.2.2.2.2.2.2.1
theorem ly_81_17 {M : MM} {sp dr : Nat} (h : LAY M sp dr) : gR M 81 17 = some 92 := h.2.2.2.2.2.2.2.2.2.2.2.2.2.2.2.2.2.2.2.2.2.2.2.2.2.2.2.2.2.2.2.2.2.2.2.2.1
theorem ly_t {M : MM} {sp dr : Nat} (h : LAY M sp dr) : ∀ t, (t = 23 ∨ t = 52) → gR M t 0 = some (t + 1) ∧ gR M t 1 = some (t + 2) ∧ (∀ w, w < 9 → gR M (t + 1) w = some (t + 3 + 2 * w) ∧ gR M (t + 3 + 2 * w) 0 = some (t + 4 + 2 * w)) ∧ (∀ s, s < 4 → gR M (t + 2) s = some (t + 21 + 2 * s) ∧ gR M (t + 21 + 2 * s) 0 = some (t + 22 + 2 * s)) := h.2.2.2.2.2.2.2.2.2.2.2.2.2.2.2.2.2.2.2.2.2.2.2.2.2.2.2.2.2.2.2.2.2.2.2.2.2
theorem LAY.of {M M' : MM} {sp dr : Nat} (h : LAY M sp dr) (hn : M'.1 = M.1) (hr : ∀ p j, gR M' p j = gR M p j) : LAY M' sp dr := by
  unfold LAY at h ⊢
  simp only [hr, hn]
  exact h
/-! numbers -/
theorem n32 (n : Nat) : (nI n) = Int32.ofNat n := rfl
theorem nn_lt {a b : Nat} (ha : a < 2 ^ 31) (hb : b < 2 ^ 31) : (nI a < nI b) = (a < b) := propext (nI_ltI ha hb)
theorem nn_le {a b : Nat} (ha : a < 2 ^ 31) (hb : b < 2 ^ 31) : (nI a ≤ nI b) = (a ≤ b) := propext (nI_leI ha hb)
theorem nn_eq {a b : Nat} (ha : a < 2 ^ 31) (hb : b < 2 ^ 31) : (nI a = nI b) = (a = b) := propext (nI_eq ha hb)
/-- an int is below 0, or one of the numbers -/
theorem i_cases (x : Int32) : x < 0 ∨ ∃ j : Nat, j < 2 ^ 31 ∧ x = nI j := by
  by_cases h : x < 0
  · exact Or.inl h
  · exact Or.inr (nI_of h)
theorem aI_l {M : MM} {p k : Nat} (hN : M.1 = 93) (hp : p < 93) (hk : (kd p == 8) = true) (hi : k < ln p) : aI M p (no_index (OfNat.ofNat k) : Int32) = some (gI M p k) := aI_e hN hp hk hi
theorem aZ_l {M : MM} {p k : Nat} (hN : M.1 = 93) (hp : p < 93) (hk : (kd p == 10) = true) (hi : k < ln p) : aZ M p (no_index (OfNat.ofNat k) : Int32) = some (gI M p k) := aZ_e hN hp hk hi
theorem aR_l {M : MM} {p c k : Nat} (hN : M.1 = 93) (hp : p < 93) (hk : (kd p == c) = true) (hi : k < ln p) : aR M p c (no_index (OfNat.ofNat k) : Int32) = gR M p k := aR_e hN hp hk hi
theorem waI_l {M : MM} {p k : Nat} {v : Int32} (hN : M.1 = 93) (hp : p < 93) (hk : (kd p == 8) = true) (hi : k < ln p) : waI M p (no_index (OfNat.ofNat k) : Int32) v = some (sI M p k v) := waI_e hN hp hk hi
theorem waZ_l {M : MM} {p k : Nat} {v : Int32} (hN : M.1 = 93) (hp : p < 93) (hk : (kd p == 10) = true) (hi : k < ln p) (hv : v = 0 ∨ v = 1) : waZ M p (no_index (OfNat.ofNat k) : Int32) v = some (sI M p k v) := waZ_e hN hp hk hi hv
/-- the kinds of a tongue's cells -/
theorem tkf {t : Nat} (h : t = 23 ∨ t = 52) : t + 29 ≤ 93 ∧ kd t = 4 ∧ kd (t + 1) = 13 ∧ ln (t + 1) = 9 ∧ kd (t + 2) = 12 ∧ ln (t + 2) = 4 ∧ (∀ w, w < 9 → kd (t + 3 + 2 * w) = 5 ∧ kd (t + 4 + 2 * w) = 8 ∧ ln (t + 4 + 2 * w) = 5) ∧ (∀ s, s < 4 → kd (t + 21 + 2 * s) = 2 ∧ kd (t + 22 + 2 * s) = 8 ∧ ln (t + 22 + 2 * s) = 3) ∧ t < 93 := by
  rcases h with rfl | rfl <;> decide
