/-! feet; many -/
def ft (P : Nat → Nat → Bool) (k r : Nat) : Bool := P k r && !P k (r + 1)
theorem c_feet {M : zMem} {w : Nat} {P : Nat → Nat → Bool} (hP : cPg M w P) {k : Nat} (hk : k < w) : ∃ x, fX4_feet (iI k) M = some x ∧ ∀ r, r < 32 → bt x r = ft P k r := by
  have hw := hP.2.1
  refine ⟨M 2 k &&& (rsd (M 2 k) 1 ^^^ -1), ?_, fun r hr => ?_⟩
  · unfold fX4_feet
    rw [c_dotsN hP hk, zb1_eq, zb1_eq]
    unfold rsd
    rw [if_neg (by omega)]
    rfl
  · rw [b_and, b_xor, b_m1 r hr, bt_rsd (by omega) (by omega) hr, hP.2.2.2.1 k (by omega) r hr, Bool.xor_true]
    unfold ft shB
    congr 2
    by_cases q : r + 1 < 32
    · rw [decide_eq_true (by omega), Bool.true_and, show ((r : Int) + 1).toNat = r + 1 by omega, hP.2.2.2.1 k (by omega) (r + 1) q]
    · rw [decide_eq_false (by omega), Bool.false_and]
      cases e : P k (r + 1) with
      | false => rfl
      | true => have := (hP.2.2.2.2 k (r + 1) e).2; omega
theorem r_isFoot {M : zMem} {w : Nat} {P : Nat → Nat → Bool} (hP : rPg M w P) {k r : Nat} (hk : k < 500) (hr : r < 500) : fX7_isFoot (iI k) (iI r) M = some (b2 (ft P k r)) := by
  unfold fX7_isFoot ft
  rw [r_isDotN hP (by omega) (by omega), zb1_eq, zj_eq, li_1, iI_add, show (r : Int) + 1 = ((r + 1 : Nat) : Int) by omega, r_isDotN hP (by omega) (by omega), zb1_eq]
  cases P k r <;> cases P k (r + 1) <;> rfl
theorem c_allFeet {M : zMem} {w : Nat} {P : Nat → Nat → Bool} (hP : cPg M w P) : fX4_allFeet M = some (iI (inkN (ft P) w)) := by
  have hw := hP.2.1
  unfold fX4_allFeet
  rw [li_0, lp_sum w (fun k => (fb_ct (ft P k) 32 : Int)) (by omega) 0]
  · rw [zb1_eq]
    show some (iI (0 + fb_si (fun k => (fb_ct (ft P k) 32 : Int)) w)) = _
    rw [Int.zero_add, si_nat (fun k => fb_ct (ft P k) 32)]; rfl
  · intro i hi x
    obtain ⟨y, e1, e2⟩ := c_feet hP hi
    show fX4_allFeet_L4 M (iI i) (iI x) = _
    unfold fX4_allFeet_L4
    rw [hP.2.2.1, fle_n (by omega) (by omega) (by omega), e1, zb1_eq, f_bitCount, zb1_eq, fb_ct_cong e2, nI_iI, zn_eq, iI_add, li_1, iI_add]; rfl
  · intro x
    show fX4_allFeet_L4 M (iI w) (iI x) = _
    unfold fX4_allFeet_L4
    rw [hP.2.2.1, if_pos (Int32.le_refl _)]
theorem r_feet {M : zMem} {w : Nat} {P : Nat → Nat → Bool} (hP : rPg M w P) : fX7_feet M = some (iI (inkN (ft P) w)) := by
  have hw := hP.2.1
  unfold fX7_feet
  rw [li_0, lp_sum w (fun k => (fb_ct (ft P k) 32 : Int)) (by omega) 0]
  · rw [zb1_eq]
    show some (iI (0 + fb_si (fun k => (fb_ct (ft P k) 32 : Int)) w)) = _
    rw [Int.zero_add, si_nat (fun k => fb_ct (ft P k) 32)]; rfl
  · intro i hi x
    show fX7_feet_L4 M (iI i) (iI x) = _
    unfold fX7_feet_L4
    rw [hP.2.2.1, fle_n (by omega) (by omega) (by omega), li_0, lp_sum 32 (fun r => if ft P i r then (1 : Int) else 0) (by omega) x]
    · rw [zb1_eq, ct_si (ft P i)]
      show some (Sum.inl (iI i + 1, iI (x + (fb_ct (ft P i) 32 : Int)))) = _
      rw [li_1, iI_add]; rfl
    · intro r hr y
      show fX7_feet_L14 M (iI i) (iI r) (iI y) = _
      unfold fX7_feet_L14
      rw [li_32, fle_n (by omega) (by omega) (by omega), r_isFoot hP (by omega) (by omega), zb1_eq, zn_eq, ite_01, iI_add, li_1, iI_add]; rfl
    · intro y
      show fX7_feet_L14 M (iI i) (iI (32 : Nat)) (iI y) = _
      unfold fX7_feet_L14
      rw [li_32, fle_p (by omega) (by omega) (by omega)]
  · intro x
    show fX7_feet_L4 M (iI w) (iI x) = _
    unfold fX7_feet_L4
    rw [hP.2.2.1, if_pos (Int32.le_refl _)]
def hasC (M : zMem) (j : Nat) : Int := if M 62 j = iI (-9) then 0 else 1
theorem crd_has {M : zMem} {j : Nat} (h : crd M j) : (if (if M (14 + j) 1 = (-1 : Int32) then (1 : Int32) else 0) = 0 then (1 : Int32) else 0) = iI (hasC M j) ∧ (if M 62 j = (-9 : Int32) then (0 : Int32) else 1) = iI (hasC M j) := by
  unfold hasC
  rcases h.1 with ⟨a1, a2, a3⟩ | ⟨s, n, s1, s2, a1, a2, a3, a4⟩
  · rw [a1, a3]; exact ⟨rfl, rfl⟩
  · rw [a1, a3, show (-1 : Int32) = iI (-1) from rfl, show (-9 : Int32) = iI (-9) from rfl, feq_n (by omega) (by omega) (by omega), feq_n (by omega) (by omega) (by omega), feq_n (by omega) (by omega) (by omega)]
    exact ⟨rfl, rfl⟩
theorem st_many {M : zMem} (h : Rl M) (p : Int32) : ∃ o M1 M2, fX6_many p M = some (o, M1) ∧ fX7_many p M1 = some (o, M2) ∧ Rl M2 := by
  obtain ⟨v, v1, v2, rfl⟩ := iI_ex p
  have hR := h
  obtain ⟨⟨w, P, h1, h2, n, x, m1, m2, m3, m4, -⟩, h4, h5⟩ := h
  have hw := h1.2.1
  have w1 := h1.2.2.1
  have w2 := h2.2.2.1
  rcases (show v = 0 ∨ v = 1 ∨ v = 2 ∨ v = 3 ∨ v = 4 ∨ v = 5 ∨ v = 6 ∨ (v ≠ 0 ∧ v ≠ 1 ∧ v ≠ 2 ∧ v ≠ 3 ∧ v ≠ 4 ∧ v ≠ 5 ∧ v ≠ 6) by omega) with rfl | rfl | rfl | rfl | rfl | rfl | rfl | hv
  · refine ⟨iI w, M, M, ?_, ?_, hR⟩
    · ((simp (disch := omega) only [zn_eq, zj_eq, zb1_eq, zb2_eq, zb3_eq, zbr_l, zbr_r, zc_in, iI_add, iI_sub, iI_mul, iI_neg, iI_lt, iI_le, iI_eq, zwr_zwr, zwa_zwa, zwr_s, zwr_o, zwr_O, zwr_k, zwa_s, zwa_S, zwa_o, zwa_O, upd_s, upd_o, if_true, if_false, if_pos, if_neg, iI_natN, iI_nat, Int.toNat_natCast, c_isRow1, c_isRow0, c_isCard1, c_isCard0, r_within1, r_within0, r_isRow1, r_isRow0, r_isCard1, r_isCard0, c_isAxis1, c_isAxis0, c_isShear1, c_isShear0, r_isAxis1, r_isAxis0, r_isShear1, r_isShear0, zc_cp, li_0, li_1, li_2, li_3, li_4, li_5, li_6, li_7, li_8, li_9, li_10, li_11, li_12, li_15, li_16, li_18, li_22, li_23, li_24, li_28, li_31, li_32, li_33, li_40, li_52, li_53, li_63, li_64, li_85, li_86, li_96, li_99, li_100, li_127, li_128, li_200, li_201, li_384, li_768, li_1023, li_5376, li_6144, fX6_many, fX4_width, w1]); try rfl)
    · ((simp (disch := omega) only [zn_eq, zj_eq, zb1_eq, zb2_eq, zb3_eq, zbr_l, zbr_r, zc_in, iI_add, iI_sub, iI_mul, iI_neg, iI_lt, iI_le, iI_eq, zwr_zwr, zwa_zwa, zwr_s, zwr_o, zwr_O, zwr_k, zwa_s, zwa_S, zwa_o, zwa_O, upd_s, upd_o, if_true, if_false, if_pos, if_neg, iI_natN, iI_nat, Int.toNat_natCast, c_isRow1, c_isRow0, c_isCard1, c_isCard0, r_within1, r_within0, r_isRow1, r_isRow0, r_isCard1, r_isCard0, c_isAxis1, c_isAxis0, c_isShear1, c_isShear0, r_isAxis1, r_isAxis0, r_isShear1, r_isShear0, zc_cp, li_0, li_1, li_2, li_3, li_4, li_5, li_6, li_7, li_8, li_9, li_10, li_11, li_12, li_15, li_16, li_18, li_22, li_23, li_24, li_28, li_31, li_32, li_33, li_40, li_52, li_53, li_63, li_64, li_85, li_86, li_96, li_99, li_100, li_127, li_128, li_200, li_201, li_384, li_768, li_1023, li_5376, li_6144, fX7_many, w2]); try rfl)
  · have c1 := c_ink h1
    have c2 := r_ink h2
    refine ⟨iI (inkN P w), M, M, ?_, ?_, hR⟩
    · ((simp (disch := omega) only [zn_eq, zj_eq, zb1_eq, zb2_eq, zb3_eq, zbr_l, zbr_r, zc_in, iI_add, iI_sub, iI_mul, iI_neg, iI_lt, iI_le, iI_eq, zwr_zwr, zwa_zwa, zwr_s, zwr_o, zwr_O, zwr_k, zwa_s, zwa_S, zwa_o, zwa_O, upd_s, upd_o, if_true, if_false, if_pos, if_neg, iI_natN, iI_nat, Int.toNat_natCast, c_isRow1, c_isRow0, c_isCard1, c_isCard0, r_within1, r_within0, r_isRow1, r_isRow0, r_isCard1, r_isCard0, c_isAxis1, c_isAxis0, c_isShear1, c_isShear0, r_isAxis1, r_isAxis0, r_isShear1, r_isShear0, zc_cp, li_0, li_1, li_2, li_3, li_4, li_5, li_6, li_7, li_8, li_9, li_10, li_11, li_12, li_15, li_16, li_18, li_22, li_23, li_24, li_28, li_31, li_32, li_33, li_40, li_52, li_53, li_63, li_64, li_85, li_86, li_96, li_99, li_100, li_127, li_128, li_200, li_201, li_384, li_768, li_1023, li_5376, li_6144, fX6_many, c1]); try rfl)
    · ((simp (disch := omega) only [zn_eq, zj_eq, zb1_eq, zb2_eq, zb3_eq, zbr_l, zbr_r, zc_in, iI_add, iI_sub, iI_mul, iI_neg, iI_lt, iI_le, iI_eq, zwr_zwr, zwa_zwa, zwr_s, zwr_o, zwr_O, zwr_k, zwa_s, zwa_S, zwa_o, zwa_O, upd_s, upd_o, if_true, if_false, if_pos, if_neg, iI_natN, iI_nat, Int.toNat_natCast, c_isRow1, c_isRow0, c_isCard1, c_isCard0, r_within1, r_within0, r_isRow1, r_isRow0, r_isCard1, r_isCard0, c_isAxis1, c_isAxis0, c_isShear1, c_isShear0, r_isAxis1, r_isAxis0, r_isShear1, r_isShear0, zc_cp, li_0, li_1, li_2, li_3, li_4, li_5, li_6, li_7, li_8, li_9, li_10, li_11, li_12, li_15, li_16, li_18, li_22, li_23, li_24, li_28, li_31, li_32, li_33, li_40, li_52, li_53, li_63, li_64, li_85, li_86, li_96, li_99, li_100, li_127, li_128, li_200, li_201, li_384, li_768, li_1023, li_5376, li_6144, fX7_many, c2]); try rfl)
  · obtain ⟨M1, ρ, e1, t1, hρ, f1⟩ := c_find h1
    obtain ⟨M2, e2, t2, o2⟩ := r_runs (rPg_ag h2 (cFo_ag f1))
    have n1 := t1.1.1
    have n2 : M2 60 13 = iI (nR P w) := t2.1
    refine ⟨iI (nR P w), M1, M2, ?_, ?_, Rl_ag (Rl_ag hR (cFo_ag f1)) (rRo_ag o2)⟩
    · ((simp (disch := omega) only [zn_eq, zj_eq, zb1_eq, zb2_eq, zb3_eq, zbr_l, zbr_r, zc_in, iI_add, iI_sub, iI_mul, iI_neg, iI_lt, iI_le, iI_eq, zwr_zwr, zwa_zwa, zwr_s, zwr_o, zwr_O, zwr_k, zwa_s, zwa_S, zwa_o, zwa_O, upd_s, upd_o, if_true, if_false, if_pos, if_neg, iI_natN, iI_nat, Int.toNat_natCast, c_isRow1, c_isRow0, c_isCard1, c_isCard0, r_within1, r_within0, r_isRow1, r_isRow0, r_isCard1, r_isCard0, c_isAxis1, c_isAxis0, c_isShear1, c_isShear0, r_isAxis1, r_isAxis0, r_isShear1, r_isShear0, zc_cp, li_0, li_1, li_2, li_3, li_4, li_5, li_6, li_7, li_8, li_9, li_10, li_11, li_12, li_15, li_16, li_18, li_22, li_23, li_24, li_28, li_31, li_32, li_33, li_40, li_52, li_53, li_63, li_64, li_85, li_86, li_96, li_99, li_100, li_127, li_128, li_200, li_201, li_384, li_768, li_1023, li_5376, li_6144, fX6_many, e1, fX5_runs, n1]); try rfl)
    · ((simp (disch := omega) only [zn_eq, zj_eq, zb1_eq, zb2_eq, zb3_eq, zbr_l, zbr_r, zc_in, iI_add, iI_sub, iI_mul, iI_neg, iI_lt, iI_le, iI_eq, zwr_zwr, zwa_zwa, zwr_s, zwr_o, zwr_O, zwr_k, zwa_s, zwa_S, zwa_o, zwa_O, upd_s, upd_o, if_true, if_false, if_pos, if_neg, iI_natN, iI_nat, Int.toNat_natCast, c_isRow1, c_isRow0, c_isCard1, c_isCard0, r_within1, r_within0, r_isRow1, r_isRow0, r_isCard1, r_isCard0, c_isAxis1, c_isAxis0, c_isShear1, c_isShear0, r_isAxis1, r_isAxis0, r_isShear1, r_isShear0, zc_cp, li_0, li_1, li_2, li_3, li_4, li_5, li_6, li_7, li_8, li_9, li_10, li_11, li_12, li_15, li_16, li_18, li_22, li_23, li_24, li_28, li_31, li_32, li_33, li_40, li_52, li_53, li_63, li_64, li_85, li_86, li_96, li_99, li_100, li_127, li_128, li_200, li_201, li_384, li_768, li_1023, li_5376, li_6144, fX7_many, e2, n2]); try rfl)
  · obtain ⟨M1, ρ, e1, t1, hρ, f1⟩ := c_find h1
    obtain ⟨M2, e2, t2, f2⟩ := r_find (rPg_ag h2 (cFo_ag f1)) hρ
    have n1 := t1.2.1
    have n2 := t2.2.1
    refine ⟨iI (nu ρ (nR P w)), M1, M2, ?_, ?_, Rl_ag (Rl_ag hR (cFo_ag f1)) f2⟩
    · ((simp (disch := omega) only [zn_eq, zj_eq, zb1_eq, zb2_eq, zb3_eq, zbr_l, zbr_r, zc_in, iI_add, iI_sub, iI_mul, iI_neg, iI_lt, iI_le, iI_eq, zwr_zwr, zwa_zwa, zwr_s, zwr_o, zwr_O, zwr_k, zwa_s, zwa_S, zwa_o, zwa_O, upd_s, upd_o, if_true, if_false, if_pos, if_neg, iI_natN, iI_nat, Int.toNat_natCast, c_isRow1, c_isRow0, c_isCard1, c_isCard0, r_within1, r_within0, r_isRow1, r_isRow0, r_isCard1, r_isCard0, c_isAxis1, c_isAxis0, c_isShear1, c_isShear0, r_isAxis1, r_isAxis0, r_isShear1, r_isShear0, zc_cp, li_0, li_1, li_2, li_3, li_4, li_5, li_6, li_7, li_8, li_9, li_10, li_11, li_12, li_15, li_16, li_18, li_22, li_23, li_24, li_28, li_31, li_32, li_33, li_40, li_52, li_53, li_63, li_64, li_85, li_86, li_96, li_99, li_100, li_127, li_128, li_200, li_201, li_384, li_768, li_1023, li_5376, li_6144, fX6_many, e1, fX5_count, n1]); try rfl)
    · ((simp (disch := omega) only [zn_eq, zj_eq, zb1_eq, zb2_eq, zb3_eq, zbr_l, zbr_r, zc_in, iI_add, iI_sub, iI_mul, iI_neg, iI_lt, iI_le, iI_eq, zwr_zwr, zwa_zwa, zwr_s, zwr_o, zwr_O, zwr_k, zwa_s, zwa_S, zwa_o, zwa_O, upd_s, upd_o, if_true, if_false, if_pos, if_neg, iI_natN, iI_nat, Int.toNat_natCast, c_isRow1, c_isRow0, c_isCard1, c_isCard0, r_within1, r_within0, r_isRow1, r_isRow0, r_isCard1, r_isCard0, c_isAxis1, c_isAxis0, c_isShear1, c_isShear0, r_isAxis1, r_isAxis0, r_isShear1, r_isShear0, zc_cp, li_0, li_1, li_2, li_3, li_4, li_5, li_6, li_7, li_8, li_9, li_10, li_11, li_12, li_15, li_16, li_18, li_22, li_23, li_24, li_28, li_31, li_32, li_33, li_40, li_52, li_53, li_63, li_64, li_85, li_86, li_96, li_99, li_100, li_127, li_128, li_200, li_201, li_384, li_768, li_1023, li_5376, li_6144, fX7_many, e2, n2]); try rfl)
  · have c1 := c_allFeet h1
    have c2 := r_feet h2
    refine ⟨iI (inkN (ft P) w), M, M, ?_, ?_, hR⟩
    · ((simp (disch := omega) only [zn_eq, zj_eq, zb1_eq, zb2_eq, zb3_eq, zbr_l, zbr_r, zc_in, iI_add, iI_sub, iI_mul, iI_neg, iI_lt, iI_le, iI_eq, zwr_zwr, zwa_zwa, zwr_s, zwr_o, zwr_O, zwr_k, zwa_s, zwa_S, zwa_o, zwa_O, upd_s, upd_o, if_true, if_false, if_pos, if_neg, iI_natN, iI_nat, Int.toNat_natCast, c_isRow1, c_isRow0, c_isCard1, c_isCard0, r_within1, r_within0, r_isRow1, r_isRow0, r_isCard1, r_isCard0, c_isAxis1, c_isAxis0, c_isShear1, c_isShear0, r_isAxis1, r_isAxis0, r_isShear1, r_isShear0, zc_cp, li_0, li_1, li_2, li_3, li_4, li_5, li_6, li_7, li_8, li_9, li_10, li_11, li_12, li_15, li_16, li_18, li_22, li_23, li_24, li_28, li_31, li_32, li_33, li_40, li_52, li_53, li_63, li_64, li_85, li_86, li_96, li_99, li_100, li_127, li_128, li_200, li_201, li_384, li_768, li_1023, li_5376, li_6144, fX6_many, c1]); try rfl)
    · ((simp (disch := omega) only [zn_eq, zj_eq, zb1_eq, zb2_eq, zb3_eq, zbr_l, zbr_r, zc_in, iI_add, iI_sub, iI_mul, iI_neg, iI_lt, iI_le, iI_eq, zwr_zwr, zwa_zwa, zwr_s, zwr_o, zwr_O, zwr_k, zwa_s, zwa_S, zwa_o, zwa_O, upd_s, upd_o, if_true, if_false, if_pos, if_neg, iI_natN, iI_nat, Int.toNat_natCast, c_isRow1, c_isRow0, c_isCard1, c_isCard0, r_within1, r_within0, r_isRow1, r_isRow0, r_isCard1, r_isCard0, c_isAxis1, c_isAxis0, c_isShear1, c_isShear0, r_isAxis1, r_isAxis0, r_isShear1, r_isShear0, zc_cp, li_0, li_1, li_2, li_3, li_4, li_5, li_6, li_7, li_8, li_9, li_10, li_11, li_12, li_15, li_16, li_18, li_22, li_23, li_24, li_28, li_31, li_32, li_33, li_40, li_52, li_53, li_63, li_64, li_85, li_86, li_96, li_99, li_100, li_127, li_128, li_200, li_201, li_384, li_768, li_1023, li_5376, li_6144, fX7_many, c2]); try rfl)
  · refine ⟨iI n, M, M, ?_, ?_, hR⟩
    · ((simp (disch := omega) only [zn_eq, zj_eq, zb1_eq, zb2_eq, zb3_eq, zbr_l, zbr_r, zc_in, iI_add, iI_sub, iI_mul, iI_neg, iI_lt, iI_le, iI_eq, zwr_zwr, zwa_zwa, zwr_s, zwr_o, zwr_O, zwr_k, zwa_s, zwa_S, zwa_o, zwa_O, upd_s, upd_o, if_true, if_false, if_pos, if_neg, iI_natN, iI_nat, Int.toNat_natCast, c_isRow1, c_isRow0, c_isCard1, c_isCard0, r_within1, r_within0, r_isRow1, r_isRow0, r_isCard1, r_isCard0, c_isAxis1, c_isAxis0, c_isShear1, c_isShear0, r_isAxis1, r_isAxis0, r_isShear1, r_isShear0, zc_cp, li_0, li_1, li_2, li_3, li_4, li_5, li_6, li_7, li_8, li_9, li_10, li_11, li_12, li_15, li_16, li_18, li_22, li_23, li_24, li_28, li_31, li_32, li_33, li_40, li_52, li_53, li_63, li_64, li_85, li_86, li_96, li_99, li_100, li_127, li_128, li_200, li_201, li_384, li_768, li_1023, li_5376, li_6144, fX6_many, fX4_moves, m3]); try rfl)
    · ((simp (disch := omega) only [zn_eq, zj_eq, zb1_eq, zb2_eq, zb3_eq, zbr_l, zbr_r, zc_in, iI_add, iI_sub, iI_mul, iI_neg, iI_lt, iI_le, iI_eq, zwr_zwr, zwa_zwa, zwr_s, zwr_o, zwr_O, zwr_k, zwa_s, zwa_S, zwa_o, zwa_O, upd_s, upd_o, if_true, if_false, if_pos, if_neg, iI_natN, iI_nat, Int.toNat_natCast, c_isRow1, c_isRow0, c_isCard1, c_isCard0, r_within1, r_within0, r_isRow1, r_isRow0, r_isCard1, r_isCard0, c_isAxis1, c_isAxis0, c_isShear1, c_isShear0, r_isAxis1, r_isAxis0, r_isShear1, r_isShear0, zc_cp, li_0, li_1, li_2, li_3, li_4, li_5, li_6, li_7, li_8, li_9, li_10, li_11, li_12, li_15, li_16, li_18, li_22, li_23, li_24, li_28, li_31, li_32, li_33, li_40, li_52, li_53, li_63, li_64, li_85, li_86, li_96, li_99, li_100, li_127, li_128, li_200, li_201, li_384, li_768, li_1023, li_5376, li_6144, fX7_many, m4]); try rfl)
  · have c1 : fX6_filledCards M = some (iI (0 + fb_si (hasC M) 4)) := by
      unfold fX6_filledCards
      rw [li_0, lp_sum 4 (hasC M) (by omega) 0]
      · rfl
      · intro i hi y
        show fX6_filledCards_L4 M (iI i) (iI y) = _
        unfold fX6_filledCards_L4 fX2_isNothing
        rw [li_4, fle_n (by omega) (by omega) (by omega), zc_in (by omega) (by omega) (by omega), iI_natN (by omega), zb1_eq, (crd_has (h4 i hi)).1, zn_eq, iI_add, li_1, iI_add]; rfl
      · intro y
        show fX6_filledCards_L4 M (iI (4 : Nat)) (iI y) = _
        unfold fX6_filledCards_L4
        rw [li_4, fle_p (by omega) (by omega) (by omega)]
    have c2 : fX7_many (iI 6) M = some (iI (0 + fb_si (hasC M) 4), M) := by
      have hl := lp_sum (body := zu2 (fX7_many_L84 M)) 4 (hasC M) (by omega) 0 (by
        intro i hi y
        show fX7_many_L84 M (iI i) (iI y) = _
        unfold fX7_many_L84
        rw [li_4, fle_n (by omega) (by omega) (by omega), zc_in (by omega) (by omega) (by omega), iI_natN (by omega), zn_eq, (crd_has (h4 i hi)).2, iI_add, li_1, iI_add]; rfl) (by
        intro y
        show fX7_many_L84 M (iI (4 : Nat)) (iI y) = _
        unfold fX7_many_L84
        rw [li_4, fle_p (by omega) (by omega) (by omega)])
      ((simp (disch := omega) only [zn_eq, zj_eq, zb1_eq, zb2_eq, zb3_eq, zbr_l, zbr_r, zc_in, iI_add, iI_sub, iI_mul, iI_neg, iI_lt, iI_le, iI_eq, zwr_zwr, zwa_zwa, zwr_s, zwr_o, zwr_O, zwr_k, zwa_s, zwa_S, zwa_o, zwa_O, upd_s, upd_o, if_true, if_false, if_pos, if_neg, iI_natN, iI_nat, Int.toNat_natCast, c_isRow1, c_isRow0, c_isCard1, c_isCard0, r_within1, r_within0, r_isRow1, r_isRow0, r_isCard1, r_isCard0, c_isAxis1, c_isAxis0, c_isShear1, c_isShear0, r_isAxis1, r_isAxis0, r_isShear1, r_isShear0, zc_cp, li_0, li_1, li_2, li_3, li_4, li_5, li_6, li_7, li_8, li_9, li_10, li_11, li_12, li_15, li_16, li_18, li_22, li_23, li_24, li_28, li_31, li_32, li_33, li_40, li_52, li_53, li_63, li_64, li_85, li_86, li_96, li_99, li_100, li_127, li_128, li_200, li_201, li_384, li_768, li_1023, li_5376, li_6144, fX7_many, hl]); try rfl)
    refine ⟨_, M, M, ?_, c2, hR⟩
    ((simp (disch := omega) only [zn_eq, zj_eq, zb1_eq, zb2_eq, zb3_eq, zbr_l, zbr_r, zc_in, iI_add, iI_sub, iI_mul, iI_neg, iI_lt, iI_le, iI_eq, zwr_zwr, zwa_zwa, zwr_s, zwr_o, zwr_O, zwr_k, zwa_s, zwa_S, zwa_o, zwa_O, upd_s, upd_o, if_true, if_false, if_pos, if_neg, iI_natN, iI_nat, Int.toNat_natCast, c_isRow1, c_isRow0, c_isCard1, c_isCard0, r_within1, r_within0, r_isRow1, r_isRow0, r_isCard1, r_isCard0, c_isAxis1, c_isAxis0, c_isShear1, c_isShear0, r_isAxis1, r_isAxis0, r_isShear1, r_isShear0, zc_cp, li_0, li_1, li_2, li_3, li_4, li_5, li_6, li_7, li_8, li_9, li_10, li_11, li_12, li_15, li_16, li_18, li_22, li_23, li_24, li_28, li_31, li_32, li_33, li_40, li_52, li_53, li_63, li_64, li_85, li_86, li_96, li_99, li_100, li_127, li_128, li_200, li_201, li_384, li_768, li_1023, li_5376, li_6144, fX6_many, c1]); try rfl)
  · refine ⟨iI (-2), M, M, ?_, ?_, hR⟩
    · ((simp (disch := omega) only [zn_eq, zj_eq, zb1_eq, zb2_eq, zb3_eq, zbr_l, zbr_r, zc_in, iI_add, iI_sub, iI_mul, iI_neg, iI_lt, iI_le, iI_eq, zwr_zwr, zwa_zwa, zwr_s, zwr_o, zwr_O, zwr_k, zwa_s, zwa_S, zwa_o, zwa_O, upd_s, upd_o, if_true, if_false, if_pos, if_neg, iI_natN, iI_nat, Int.toNat_natCast, c_isRow1, c_isRow0, c_isCard1, c_isCard0, r_within1, r_within0, r_isRow1, r_isRow0, r_isCard1, r_isCard0, c_isAxis1, c_isAxis0, c_isShear1, c_isShear0, r_isAxis1, r_isAxis0, r_isShear1, r_isShear0, zc_cp, li_0, li_1, li_2, li_3, li_4, li_5, li_6, li_7, li_8, li_9, li_10, li_11, li_12, li_15, li_16, li_18, li_22, li_23, li_24, li_28, li_31, li_32, li_33, li_40, li_52, li_53, li_63, li_64, li_85, li_86, li_96, li_99, li_100, li_127, li_128, li_200, li_201, li_384, li_768, li_1023, li_5376, li_6144, fX6_many]); try rfl)
    · ((simp (disch := omega) only [zn_eq, zj_eq, zb1_eq, zb2_eq, zb3_eq, zbr_l, zbr_r, zc_in, iI_add, iI_sub, iI_mul, iI_neg, iI_lt, iI_le, iI_eq, zwr_zwr, zwa_zwa, zwr_s, zwr_o, zwr_O, zwr_k, zwa_s, zwa_S, zwa_o, zwa_O, upd_s, upd_o, if_true, if_false, if_pos, if_neg, iI_natN, iI_nat, Int.toNat_natCast, c_isRow1, c_isRow0, c_isCard1, c_isCard0, r_within1, r_within0, r_isRow1, r_isRow0, r_isCard1, r_isCard0, c_isAxis1, c_isAxis0, c_isShear1, c_isShear0, r_isAxis1, r_isAxis0, r_isShear1, r_isShear0, zc_cp, li_0, li_1, li_2, li_3, li_4, li_5, li_6, li_7, li_8, li_9, li_10, li_11, li_12, li_15, li_16, li_18, li_22, li_23, li_24, li_28, li_31, li_32, li_33, li_40, li_52, li_53, li_63, li_64, li_85, li_86, li_96, li_99, li_100, li_127, li_128, li_200, li_201, li_384, li_768, li_1023, li_5376, li_6144, fX7_many]); try rfl)
