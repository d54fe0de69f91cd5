/-! run -/
theorem st_run {M : zMem} (h : Rl M) (p q : Int32) : ∃ o M1 M2, fX6_run p q M = some (o, M1) ∧ fX7_run p q M1 = some (o, M2) ∧ Rl M2 := by
  obtain ⟨k, k1, k2, rfl⟩ := iI_ex p
  obtain ⟨v, v1, v2, rfl⟩ := iI_ex q
  have hR := h
  obtain ⟨⟨w, P, h1, h2, -⟩, -⟩ := h
  have hw := h1.2.1
  have hN := nR_le P hw
  obtain ⟨M1, ρ, e1, t1, hρ, f1⟩ := c_find h1
  obtain ⟨M2, e2, t2, f2⟩ := r_find (rPg_ag h2 (cFo_ag f1)) hρ
  have hR2 : Rl M2 := Rl_ag (Rl_ag hR (cFo_ag f1)) f2
  have n1 := t1.1.1
  have n2 := t2.1.1
  by_cases hk : 0 ≤ k ∧ k < nR P w
  · obtain ⟨k, rfl⟩ : ∃ n : Nat, k = n := ⟨k.toNat, by omega⟩
    obtain ⟨a1, a2, a3⟩ := t1.1.2 k (by omega)
    have a4 := t1.2.2 k (by omega)
    obtain ⟨b1, b2, b3⟩ := t2.1.2 k (by omega)
    have b4 := t2.2.2 k (by omega)
    rcases (show v = 0 ∨ v = 1 ∨ v = 2 ∨ v = 3 ∨ (v ≠ 0 ∧ v ≠ 1 ∧ v ≠ 2 ∧ v ≠ 3) by omega) with rfl | rfl | rfl | rfl | hv
    · refine ⟨iI (roR P w k), M1, M2, ?_, ?_, hR2⟩
      · ((simp (disch := omega) only [zn_eq, zj_eq, zb1_eq, zb2_eq, zb3_eq, zbr_l, zbr_r, zc_in, iI_add, iI_sub, iI_mul, iI_neg, iI_lt, iI_le, iI_eq, zwr_zwr, zwa_zwa, zwr_s, zwr_o, zwr_O, zwr_k, zwa_s, zwa_S, zwa_o, zwa_O, upd_s, upd_o, if_true, if_false, if_pos, if_neg, iI_natN, iI_nat, Int.toNat_natCast, c_isRow1, c_isRow0, c_isCard1, c_isCard0, r_within1, r_within0, r_isRow1, r_isRow0, r_isCard1, r_isCard0, c_isAxis1, c_isAxis0, c_isShear1, c_isShear0, r_isAxis1, r_isAxis0, r_isShear1, r_isShear0, zc_cp, li_0, li_1, li_2, li_3, li_4, li_5, li_6, li_7, li_8, li_9, li_10, li_11, li_12, li_15, li_16, li_18, li_22, li_23, li_24, li_28, li_31, li_32, li_33, li_40, li_52, li_53, li_63, li_64, li_85, li_86, li_96, li_99, li_100, li_127, li_128, li_200, li_201, li_384, li_768, li_1023, li_5376, li_6144, fX6_run, e1, fX5_runs, n1, fX5_rowOf, fX5_isRun, a1]); try rfl)
      · ((simp (disch := omega) only [zn_eq, zj_eq, zb1_eq, zb2_eq, zb3_eq, zbr_l, zbr_r, zc_in, iI_add, iI_sub, iI_mul, iI_neg, iI_lt, iI_le, iI_eq, zwr_zwr, zwa_zwa, zwr_s, zwr_o, zwr_O, zwr_k, zwa_s, zwa_S, zwa_o, zwa_O, upd_s, upd_o, if_true, if_false, if_pos, if_neg, iI_natN, iI_nat, Int.toNat_natCast, c_isRow1, c_isRow0, c_isCard1, c_isCard0, r_within1, r_within0, r_isRow1, r_isRow0, r_isCard1, r_isCard0, c_isAxis1, c_isAxis0, c_isShear1, c_isShear0, r_isAxis1, r_isAxis0, r_isShear1, r_isShear0, zc_cp, li_0, li_1, li_2, li_3, li_4, li_5, li_6, li_7, li_8, li_9, li_10, li_11, li_12, li_15, li_16, li_18, li_22, li_23, li_24, li_28, li_31, li_32, li_33, li_40, li_52, li_53, li_63, li_64, li_85, li_86, li_96, li_99, li_100, li_127, li_128, li_200, li_201, li_384, li_768, li_1023, li_5376, li_6144, fX7_run, e2, n2, b1]); try rfl)
    · refine ⟨iI (fiR P w k), M1, M2, ?_, ?_, hR2⟩
      · ((simp (disch := omega) only [zn_eq, zj_eq, zb1_eq, zb2_eq, zb3_eq, zbr_l, zbr_r, zc_in, iI_add, iI_sub, iI_mul, iI_neg, iI_lt, iI_le, iI_eq, zwr_zwr, zwa_zwa, zwr_s, zwr_o, zwr_O, zwr_k, zwa_s, zwa_S, zwa_o, zwa_O, upd_s, upd_o, if_true, if_false, if_pos, if_neg, iI_natN, iI_nat, Int.toNat_natCast, c_isRow1, c_isRow0, c_isCard1, c_isCard0, r_within1, r_within0, r_isRow1, r_isRow0, r_isCard1, r_isCard0, c_isAxis1, c_isAxis0, c_isShear1, c_isShear0, r_isAxis1, r_isAxis0, r_isShear1, r_isShear0, zc_cp, li_0, li_1, li_2, li_3, li_4, li_5, li_6, li_7, li_8, li_9, li_10, li_11, li_12, li_15, li_16, li_18, li_22, li_23, li_24, li_28, li_31, li_32, li_33, li_40, li_52, li_53, li_63, li_64, li_85, li_86, li_96, li_99, li_100, li_127, li_128, li_200, li_201, li_384, li_768, li_1023, li_5376, li_6144, fX6_run, e1, fX5_runs, n1, fX5_firstOf, fX5_isRun, a2]); try rfl)
      · ((simp (disch := omega) only [zn_eq, zj_eq, zb1_eq, zb2_eq, zb3_eq, zbr_l, zbr_r, zc_in, iI_add, iI_sub, iI_mul, iI_neg, iI_lt, iI_le, iI_eq, zwr_zwr, zwa_zwa, zwr_s, zwr_o, zwr_O, zwr_k, zwa_s, zwa_S, zwa_o, zwa_O, upd_s, upd_o, if_true, if_false, if_pos, if_neg, iI_natN, iI_nat, Int.toNat_natCast, c_isRow1, c_isRow0, c_isCard1, c_isCard0, r_within1, r_within0, r_isRow1, r_isRow0, r_isCard1, r_isCard0, c_isAxis1, c_isAxis0, c_isShear1, c_isShear0, r_isAxis1, r_isAxis0, r_isShear1, r_isShear0, zc_cp, li_0, li_1, li_2, li_3, li_4, li_5, li_6, li_7, li_8, li_9, li_10, li_11, li_12, li_15, li_16, li_18, li_22, li_23, li_24, li_28, li_31, li_32, li_33, li_40, li_52, li_53, li_63, li_64, li_85, li_86, li_96, li_99, li_100, li_127, li_128, li_200, li_201, li_384, li_768, li_1023, li_5376, li_6144, fX7_run, e2, n2, b2]); try rfl)
    · refine ⟨iI ((laR P w k : Int) - (fiR P w k : Int) + 1), M1, M2, ?_, ?_, hR2⟩
      · ((simp (disch := omega) only [zn_eq, zj_eq, zb1_eq, zb2_eq, zb3_eq, zbr_l, zbr_r, zc_in, iI_add, iI_sub, iI_mul, iI_neg, iI_lt, iI_le, iI_eq, zwr_zwr, zwa_zwa, zwr_s, zwr_o, zwr_O, zwr_k, zwa_s, zwa_S, zwa_o, zwa_O, upd_s, upd_o, if_true, if_false, if_pos, if_neg, iI_natN, iI_nat, Int.toNat_natCast, c_isRow1, c_isRow0, c_isCard1, c_isCard0, r_within1, r_within0, r_isRow1, r_isRow0, r_isCard1, r_isCard0, c_isAxis1, c_isAxis0, c_isShear1, c_isShear0, r_isAxis1, r_isAxis0, r_isShear1, r_isShear0, zc_cp, li_0, li_1, li_2, li_3, li_4, li_5, li_6, li_7, li_8, li_9, li_10, li_11, li_12, li_15, li_16, li_18, li_22, li_23, li_24, li_28, li_31, li_32, li_33, li_40, li_52, li_53, li_63, li_64, li_85, li_86, li_96, li_99, li_100, li_127, li_128, li_200, li_201, li_384, li_768, li_1023, li_5376, li_6144, fX6_run, e1, fX5_runs, n1, fX5_dotsOf, fX5_isRun, a2, a3]); try rfl)
      · ((simp (disch := omega) only [zn_eq, zj_eq, zb1_eq, zb2_eq, zb3_eq, zbr_l, zbr_r, zc_in, iI_add, iI_sub, iI_mul, iI_neg, iI_lt, iI_le, iI_eq, zwr_zwr, zwa_zwa, zwr_s, zwr_o, zwr_O, zwr_k, zwa_s, zwa_S, zwa_o, zwa_O, upd_s, upd_o, if_true, if_false, if_pos, if_neg, iI_natN, iI_nat, Int.toNat_natCast, c_isRow1, c_isRow0, c_isCard1, c_isCard0, r_within1, r_within0, r_isRow1, r_isRow0, r_isCard1, r_isCard0, c_isAxis1, c_isAxis0, c_isShear1, c_isShear0, r_isAxis1, r_isAxis0, r_isShear1, r_isShear0, zc_cp, li_0, li_1, li_2, li_3, li_4, li_5, li_6, li_7, li_8, li_9, li_10, li_11, li_12, li_15, li_16, li_18, li_22, li_23, li_24, li_28, li_31, li_32, li_33, li_40, li_52, li_53, li_63, li_64, li_85, li_86, li_96, li_99, li_100, li_127, li_128, li_200, li_201, li_384, li_768, li_1023, li_5376, li_6144, fX7_run, e2, n2, b3]); try rfl)
    · refine ⟨iI (nu ρ (ρ k)), M1, M2, ?_, ?_, hR2⟩
      · ((simp (disch := omega) only [zn_eq, zj_eq, zb1_eq, zb2_eq, zb3_eq, zbr_l, zbr_r, zc_in, iI_add, iI_sub, iI_mul, iI_neg, iI_lt, iI_le, iI_eq, zwr_zwr, zwa_zwa, zwr_s, zwr_o, zwr_O, zwr_k, zwa_s, zwa_S, zwa_o, zwa_O, upd_s, upd_o, if_true, if_false, if_pos, if_neg, iI_natN, iI_nat, Int.toNat_natCast, c_isRow1, c_isRow0, c_isCard1, c_isCard0, r_within1, r_within0, r_isRow1, r_isRow0, r_isCard1, r_isCard0, c_isAxis1, c_isAxis0, c_isShear1, c_isShear0, r_isAxis1, r_isAxis0, r_isShear1, r_isShear0, zc_cp, li_0, li_1, li_2, li_3, li_4, li_5, li_6, li_7, li_8, li_9, li_10, li_11, li_12, li_15, li_16, li_18, li_22, li_23, li_24, li_28, li_31, li_32, li_33, li_40, li_52, li_53, li_63, li_64, li_85, li_86, li_96, li_99, li_100, li_127, li_128, li_200, li_201, li_384, li_768, li_1023, li_5376, li_6144, fX6_run, e1, fX5_runs, n1, fX5_strokeOf, fX5_isRun, a4]); try rfl)
      · ((simp (disch := omega) only [zn_eq, zj_eq, zb1_eq, zb2_eq, zb3_eq, zbr_l, zbr_r, zc_in, iI_add, iI_sub, iI_mul, iI_neg, iI_lt, iI_le, iI_eq, zwr_zwr, zwa_zwa, zwr_s, zwr_o, zwr_O, zwr_k, zwa_s, zwa_S, zwa_o, zwa_O, upd_s, upd_o, if_true, if_false, if_pos, if_neg, iI_natN, iI_nat, Int.toNat_natCast, c_isRow1, c_isRow0, c_isCard1, c_isCard0, r_within1, r_within0, r_isRow1, r_isRow0, r_isCard1, r_isCard0, c_isAxis1, c_isAxis0, c_isShear1, c_isShear0, r_isAxis1, r_isAxis0, r_isShear1, r_isShear0, zc_cp, li_0, li_1, li_2, li_3, li_4, li_5, li_6, li_7, li_8, li_9, li_10, li_11, li_12, li_15, li_16, li_18, li_22, li_23, li_24, li_28, li_31, li_32, li_33, li_40, li_52, li_53, li_63, li_64, li_85, li_86, li_96, li_99, li_100, li_127, li_128, li_200, li_201, li_384, li_768, li_1023, li_5376, li_6144, fX7_run, e2, n2, b4]); try rfl)
    · refine ⟨iI (-2), M1, M2, ?_, ?_, hR2⟩
      · ((simp (disch := omega) only [zn_eq, zj_eq, zb1_eq, zb2_eq, zb3_eq, zbr_l, zbr_r, zc_in, iI_add, iI_sub, iI_mul, iI_neg, iI_lt, iI_le, iI_eq, zwr_zwr, zwa_zwa, zwr_s, zwr_o, zwr_O, zwr_k, zwa_s, zwa_S, zwa_o, zwa_O, upd_s, upd_o, if_true, if_false, if_pos, if_neg, iI_natN, iI_nat, Int.toNat_natCast, c_isRow1, c_isRow0, c_isCard1, c_isCard0, r_within1, r_within0, r_isRow1, r_isRow0, r_isCard1, r_isCard0, c_isAxis1, c_isAxis0, c_isShear1, c_isShear0, r_isAxis1, r_isAxis0, r_isShear1, r_isShear0, zc_cp, li_0, li_1, li_2, li_3, li_4, li_5, li_6, li_7, li_8, li_9, li_10, li_11, li_12, li_15, li_16, li_18, li_22, li_23, li_24, li_28, li_31, li_32, li_33, li_40, li_52, li_53, li_63, li_64, li_85, li_86, li_96, li_99, li_100, li_127, li_128, li_200, li_201, li_384, li_768, li_1023, li_5376, li_6144, fX6_run, e1, fX5_runs, n1]); try rfl)
      · ((simp (disch := omega) only [zn_eq, zj_eq, zb1_eq, zb2_eq, zb3_eq, zbr_l, zbr_r, zc_in, iI_add, iI_sub, iI_mul, iI_neg, iI_lt, iI_le, iI_eq, zwr_zwr, zwa_zwa, zwr_s, zwr_o, zwr_O, zwr_k, zwa_s, zwa_S, zwa_o, zwa_O, upd_s, upd_o, if_true, if_false, if_pos, if_neg, iI_natN, iI_nat, Int.toNat_natCast, c_isRow1, c_isRow0, c_isCard1, c_isCard0, r_within1, r_within0, r_isRow1, r_isRow0, r_isCard1, r_isCard0, c_isAxis1, c_isAxis0, c_isShear1, c_isShear0, r_isAxis1, r_isAxis0, r_isShear1, r_isShear0, zc_cp, li_0, li_1, li_2, li_3, li_4, li_5, li_6, li_7, li_8, li_9, li_10, li_11, li_12, li_15, li_16, li_18, li_22, li_23, li_24, li_28, li_31, li_32, li_33, li_40, li_52, li_53, li_63, li_64, li_85, li_86, li_96, li_99, li_100, li_127, li_128, li_200, li_201, li_384, li_768, li_1023, li_5376, li_6144, fX7_run, e2, n2]); try rfl)
  · refine ⟨iI (-1), M1, M2, ?_, ?_, hR2⟩
    · rcases (show k < 0 ∨ (nR P w : Int) ≤ k by omega) with g | g
      · ((simp (disch := omega) only [zn_eq, zj_eq, zb1_eq, zb2_eq, zb3_eq, zbr_l, zbr_r, zc_in, iI_add, iI_sub, iI_mul, iI_neg, iI_lt, iI_le, iI_eq, zwr_zwr, zwa_zwa, zwr_s, zwr_o, zwr_O, zwr_k, zwa_s, zwa_S, zwa_o, zwa_O, upd_s, upd_o, if_true, if_false, if_pos, if_neg, iI_natN, iI_nat, Int.toNat_natCast, c_isRow1, c_isRow0, c_isCard1, c_isCard0, r_within1, r_within0, r_isRow1, r_isRow0, r_isCard1, r_isCard0, c_isAxis1, c_isAxis0, c_isShear1, c_isShear0, r_isAxis1, r_isAxis0, r_isShear1, r_isShear0, zc_cp, li_0, li_1, li_2, li_3, li_4, li_5, li_6, li_7, li_8, li_9, li_10, li_11, li_12, li_15, li_16, li_18, li_22, li_23, li_24, li_28, li_31, li_32, li_33, li_40, li_52, li_53, li_63, li_64, li_85, li_86, li_96, li_99, li_100, li_127, li_128, li_200, li_201, li_384, li_768, li_1023, li_5376, li_6144, fX6_run, e1, fX5_runs, n1]); try rfl)
      · ((simp (disch := omega) only [zn_eq, zj_eq, zb1_eq, zb2_eq, zb3_eq, zbr_l, zbr_r, zc_in, iI_add, iI_sub, iI_mul, iI_neg, iI_lt, iI_le, iI_eq, zwr_zwr, zwa_zwa, zwr_s, zwr_o, zwr_O, zwr_k, zwa_s, zwa_S, zwa_o, zwa_O, upd_s, upd_o, if_true, if_false, if_pos, if_neg, iI_natN, iI_nat, Int.toNat_natCast, c_isRow1, c_isRow0, c_isCard1, c_isCard0, r_within1, r_within0, r_isRow1, r_isRow0, r_isCard1, r_isCard0, c_isAxis1, c_isAxis0, c_isShear1, c_isShear0, r_isAxis1, r_isAxis0, r_isShear1, r_isShear0, zc_cp, li_0, li_1, li_2, li_3, li_4, li_5, li_6, li_7, li_8, li_9, li_10, li_11, li_12, li_15, li_16, li_18, li_22, li_23, li_24, li_28, li_31, li_32, li_33, li_40, li_52, li_53, li_63, li_64, li_85, li_86, li_96, li_99, li_100, li_127, li_128, li_200, li_201, li_384, li_768, li_1023, li_5376, li_6144, fX6_run, e1, fX5_runs, n1]); try rfl)
    · ((simp (disch := omega) only [zn_eq, zj_eq, zb1_eq, zb2_eq, zb3_eq, zbr_l, zbr_r, zc_in, iI_add, iI_sub, iI_mul, iI_neg, iI_lt, iI_le, iI_eq, zwr_zwr, zwa_zwa, zwr_s, zwr_o, zwr_O, zwr_k, zwa_s, zwa_S, zwa_o, zwa_O, upd_s, upd_o, if_true, if_false, if_pos, if_neg, iI_natN, iI_nat, Int.toNat_natCast, c_isRow1, c_isRow0, c_isCard1, c_isCard0, r_within1, r_within0, r_isRow1, r_isRow0, r_isCard1, r_isCard0, c_isAxis1, c_isAxis0, c_isShear1, c_isShear0, r_isAxis1, r_isAxis0, r_isShear1, r_isShear0, zc_cp, li_0, li_1, li_2, li_3, li_4, li_5, li_6, li_7, li_8, li_9, li_10, li_11, li_12, li_15, li_16, li_18, li_22, li_23, li_24, li_28, li_31, li_32, li_33, li_40, li_52, li_53, li_63, li_64, li_85, li_86, li_96, li_99, li_100, li_127, li_128, li_200, li_201, li_384, li_768, li_1023, li_5376, li_6144, fX7_run, e2, n2]); try rfl)
/-! stroke -/
def fd (sel : Nat → Bool) (g : Nat → Int → Int) (i : Int) : Nat → Int
  | 0 => i
  | n + 1 => if sel n = true then g n (fd sel g i n) else fd sel g i n
theorem fd_eq {sel : Nat → Bool} {g : Nat → Int → Int} {a b : Int} : ∀ n, (∀ j, j < n → g j a = g j b) → ((∀ j, j < n → sel j = false) ∧ fd sel g a n = a ∧ fd sel g b n = b) ∨ ((∃ j, j < n ∧ sel j = true) ∧ fd sel g a n = fd sel g b n)
  | 0, _ => Or.inl ⟨fun j hj => absurd hj (Nat.not_lt_zero j), rfl, rfl⟩
  | n + 1, h => by
    have ih := fd_eq (sel := sel) (g := g) (a := a) (b := b) n (fun j hj => h j (by omega))
    show _ ∨ (_ ∧ (if sel n = true then g n (fd sel g a n) else fd sel g a n) = (if sel n = true then g n (fd sel g b n) else fd sel g b n))
    by_cases q : sel n = true
    · right
      rw [if_pos q, if_pos q]
      refine ⟨⟨n, by omega, q⟩, ?_⟩
      rcases ih with ⟨-, i2, i3⟩ | ⟨-, i2⟩
      · rw [i2, i3]; exact h n (by omega)
      · rw [i2]
    · rcases ih with ⟨i1, i2, i3⟩ | ⟨⟨j, j1, j2⟩, i2⟩
      · left
        refine ⟨fun j hj => ?_, ?_, ?_⟩
        · rcases (show j < n ∨ j = n by omega) with s | s
          · exact i1 j s
          · rw [s]; cases e : sel n with | true => exact absurd e q | false => rfl
        · show (if sel n = true then g n (fd sel g a n) else fd sel g a n) = a
          rw [if_neg q]; exact i2
        · show (if sel n = true then g n (fd sel g b n) else fd sel g b n) = b
          rw [if_neg q]; exact i3
      · right
        rw [if_neg q, if_neg q]
        exact ⟨⟨j, by omega, j2⟩, i2⟩
theorem fd_bd {sel : Nat → Bool} {g : Nat → Int → Int} {a : Int} (C : Int → Prop) (h0 : C a) : ∀ n, (∀ j v, j < n → C v → C (g j v)) → C (fd sel g a n)
  | 0, _ => h0
  | n + 1, h => by
    have ih := fd_bd (sel := sel) (g := g) C h0 n (fun j v hj => h j v (by omega))
    show C (if sel n = true then g n (fd sel g a n) else fd sel g a n)
    by_cases q : sel n = true
    · rw [if_pos q]; exact h n _ (by omega) ih
    · rw [if_neg q]; exact ih
def gmn (f : Nat → Nat) (n : Nat) (v : Int) : Int := if (f n : Int) < v then (f n : Int) else v
def gmx (f : Nat → Nat) (n : Nat) (v : Int) : Int := if v < (f n : Int) then (f n : Int) else v
theorem gmn_bd {sel : Nat → Bool} {f : Nat → Nat} {N : Nat} {a : Int} (h0 : 0 ≤ a) (h1 : a ≤ 40) {n : Nat} (hn : n ≤ N) (hf : ∀ j, j < N → f j < 32) : 0 ≤ fd sel (gmn f) a n ∧ fd sel (gmn f) a n ≤ 40 := by
  refine fd_bd (fun v => 0 ≤ v ∧ v ≤ 40) ⟨h0, h1⟩ n (fun j v hj hv => ?_)
  have := hf j (by omega)
  unfold gmn
  by_cases q : (f j : Int) < v
  · rw [if_pos q]; omega
  · rw [if_neg q]; omega
theorem gmx_bd {sel : Nat → Bool} {f : Nat → Nat} {N : Nat} {a : Int} (h0 : -1 ≤ a) (h1 : a ≤ 40) {n : Nat} (hn : n ≤ N) (hf : ∀ j, j < N → f j < 32) : -1 ≤ fd sel (gmx f) a n ∧ fd sel (gmx f) a n ≤ 40 := by
  refine fd_bd (fun v => -1 ≤ v ∧ v ≤ 40) ⟨h0, h1⟩ n (fun j v hj hv => ?_)
  have := hf j (by omega)
  unfold gmx
  by_cases q : v < (f j : Int)
  · rw [if_pos q]; omega
  · rw [if_neg q]; omega
def slc (ρ : Nat → Nat) (s : Nat) : Nat → Bool := fun j => decide (nu ρ (ρ j) = s)
theorem c_least {M : zMem} {P : Nat → Nat → Bool} {w c s : Nat} {ρ : Nat → Nat} {f : Nat → Nat} (hw : w ≤ 24) (hM : cSt P w M ρ) (hρ : rOK P w ρ) (hs : s ≤ 384) (hf : ∀ j, j < nR P w → M c j = iI (f j) ∧ f j < 32) : fX5_least c (iI s) M = some (iI (fd (slc ρ s) (gmn f) 32 (nR P w))) := by
  have hN := nR_le P hw
  have hl : zlp (zu2 (fX5_least_L6 c (iI s) M)) zfu (iI 0, iI 32) = some (iI (nR P w), iI (fd (slc ρ s) (gmn f) 32 (nR P w))) := by
    refine zlp_seq (S := fun j => (iI (j : Int), iI (fd (slc ρ s) (gmn f) 32 j))) _ (nR P w) (by omega) rfl (fun j hj => ?_) ?_
    · show fX5_least_L6 c (iI s) M (iI (j : Int)) (iI (fd (slc ρ s) (gmn f) 32 j)) = some (.inl (iI ((j + 1 : Nat) : Int), iI (if slc ρ s j = true then gmn f j (fd (slc ρ s) (gmn f) 32 j) else fd (slc ρ s) (gmn f) 32 j)))
      have bd := gmn_bd (sel := slc ρ s) (f := f) (a := 32) (by omega) (by omega) (show j ≤ nR P w by omega) (fun j hj => (hf j hj).2)
      obtain ⟨m1, m2⟩ := hf j hj
      have hr := (hρ.1 j).1
      have hnu := nu_le ρ (ρ j)
      obtain ⟨V, eV⟩ : ∃ V, V = fd (slc ρ s) (gmn f) 32 j := ⟨_, rfl⟩
      rw [← eV] at bd ⊢
      unfold fX5_least_L6 slc gmn zmmin
      rw [hM.1.1, fle_n (by omega) (by omega) (by omega), li_384, fle_n (by omega) (by omega) (by omega), zc_in (by omega) (by omega) (by omega), zj_eq, iI_natN (by omega), hM.2.2 j hj, li_1, iI_add]
      by_cases q : nu ρ (ρ j) = s
      · rw [if_pos (by rw [q]), zc_in (by omega) (by omega) (by omega), m1, decide_eq_true q, if_pos rfl]
        by_cases g : (f j : Int) < V
        · rw [flt_p (by omega) (by omega) (by omega), if_pos g]; rfl
        · rw [flt_n (by omega) (by omega) (by omega), if_neg g]; rfl
      · rw [feq_n (by omega) (by omega) (by omega), decide_eq_false q, if_neg (by decide)]; rfl
    · show fX5_least_L6 c (iI s) M (iI (nR P w : Int)) _ = _
      unfold fX5_least_L6
      rw [hM.1.1, fle_p (by omega) (by omega) (by omega)]
  unfold fX5_least
  rw [li_0, li_32, hl, zb1_eq]
theorem c_greatest {M : zMem} {P : Nat → Nat → Bool} {w c s : Nat} {ρ : Nat → Nat} {f : Nat → Nat} (hw : w ≤ 24) (hM : cSt P w M ρ) (hρ : rOK P w ρ) (hs : s ≤ 384) (hf : ∀ j, j < nR P w → M c j = iI (f j) ∧ f j < 32) : fX5_greatest c (iI s) M = some (iI (fd (slc ρ s) (gmx f) 0 (nR P w))) := by
  have hN := nR_le P hw
  have hl : zlp (zu2 (fX5_greatest_L5 c (iI s) M)) zfu (iI 0, iI 0) = some (iI (nR P w), iI (fd (slc ρ s) (gmx f) 0 (nR P w))) := by
    refine zlp_seq (S := fun j => (iI (j : Int), iI (fd (slc ρ s) (gmx f) 0 j))) _ (nR P w) (by omega) rfl (fun j hj => ?_) ?_
    · show fX5_greatest_L5 c (iI s) M (iI (j : Int)) (iI (fd (slc ρ s) (gmx f) 0 j)) = some (.inl (iI ((j + 1 : Nat) : Int), iI (if slc ρ s j = true then gmx f j (fd (slc ρ s) (gmx f) 0 j) else fd (slc ρ s) (gmx f) 0 j)))
      have bd := gmx_bd (sel := slc ρ s) (f := f) (a := 0) (by omega) (by omega) (show j ≤ nR P w by omega) (fun j hj => (hf j hj).2)
      obtain ⟨m1, m2⟩ := hf j hj
      have hr := (hρ.1 j).1
      have hnu := nu_le ρ (ρ j)
      obtain ⟨V, eV⟩ : ∃ V, V = fd (slc ρ s) (gmx f) 0 j := ⟨_, rfl⟩
      rw [← eV] at bd ⊢
      unfold fX5_greatest_L5 slc gmx zmmax
      rw [hM.1.1, fle_n (by omega) (by omega) (by omega), li_384, fle_n (by omega) (by omega) (by omega), zc_in (by omega) (by omega) (by omega), zj_eq, iI_natN (by omega), hM.2.2 j hj, li_1, iI_add]
      by_cases q : nu ρ (ρ j) = s
      · rw [if_pos (by rw [q]), zc_in (by omega) (by omega) (by omega), m1, decide_eq_true q, if_pos rfl]
        by_cases g : V < (f j : Int)
        · rw [flt_p (by omega) (by omega) (by omega), if_pos g]; rfl
        · rw [flt_n (by omega) (by omega) (by omega), if_neg g]; rfl
      · rw [feq_n (by omega) (by omega) (by omega), decide_eq_false q, if_neg (by decide)]; rfl
    · show fX5_greatest_L5 c (iI s) M (iI (nR P w : Int)) _ = _
      unfold fX5_greatest_L5
      rw [hM.1.1, fle_p (by omega) (by omega) (by omega)]
  unfold fX5_greatest
  rw [li_0, hl, zb1_eq]
def dtS (P : Nat → Nat → Bool) (w : Nat) (ρ : Nat → Nat) (s : Nat) (j : Nat) : Int := if slc ρ s j = true then (laR P w j : Int) - (fiR P w j : Int) + 1 else 0
def rnS (ρ : Nat → Nat) (s : Nat) (j : Nat) : Int := if slc ρ s j = true then 1 else 0
theorem c_dotsT {M : zMem} {P : Nat → Nat → Bool} {w s : Nat} {ρ : Nat → Nat} (hw : w ≤ 24) (hM : cSt P w M ρ) (hρ : rOK P w ρ) (hs : s ≤ 384) : fX5_dotsTogether (iI s) M = some (iI (fb_si (dtS P w ρ s) (nR P w))) := by
  have hN := nR_le P hw
  have hl : zlp (zu2 (fX5_dotsTogether_L4 (iI s) M)) zfu (iI 0, iI 0) = some (iI (nR P w), iI (fb_si (dtS P w ρ s) (nR P w))) := by
    refine zlp_seq (S := fun j => (iI (j : Int), iI (fb_si (dtS P w ρ s) j))) _ (nR P w) (by omega) rfl (fun j hj => ?_) ?_
    · show fX5_dotsTogether_L4 (iI s) M (iI (j : Int)) (iI (fb_si (dtS P w ρ s) j)) = some (.inl (iI ((j + 1 : Nat) : Int), iI (fb_si (dtS P w ρ s) (j + 1))))
      obtain ⟨m1, m2, m3⟩ := hM.1.2 j hj
      have hr := (hρ.1 j).1
      have hnu := nu_le ρ (ρ j)
      have hd : fX5_dotsOf (iI j) M = some (iI ((laR P w j : Int) - (fiR P w j : Int) + 1)) := by
        have n1 := hM.1.1
        ((simp (disch := omega) only [zn_eq, zj_eq, zb1_eq, zb2_eq, zb3_eq, zbr_l, zbr_r, zc_in, iI_add, iI_sub, iI_mul, iI_neg, iI_lt, iI_le, iI_eq, zwr_zwr, zwa_zwa, zwr_s, zwr_o, zwr_O, zwr_k, zwa_s, zwa_S, zwa_o, zwa_O, upd_s, upd_o, if_true, if_false, if_pos, if_neg, iI_natN, iI_nat, Int.toNat_natCast, c_isRow1, c_isRow0, c_isCard1, c_isCard0, r_within1, r_within0, r_isRow1, r_isRow0, r_isCard1, r_isCard0, c_isAxis1, c_isAxis0, c_isShear1, c_isShear0, r_isAxis1, r_isAxis0, r_isShear1, r_isShear0, zc_cp, li_0, li_1, li_2, li_3, li_4, li_5, li_6, li_7, li_8, li_9, li_10, li_11, li_12, li_15, li_16, li_18, li_22, li_23, li_24, li_28, li_31, li_32, li_33, li_40, li_52, li_53, li_63, li_64, li_85, li_86, li_96, li_99, li_100, li_127, li_128, li_200, li_201, li_384, li_768, li_1023, li_5376, li_6144, fX5_dotsOf, fX5_isRun, n1, m2, m3]); try rfl)
      rw [fb_si_succ]
      unfold fX5_dotsTogether_L4
      rw [hM.1.1, fle_n (by omega) (by omega) (by omega), zc_in (by omega) (by omega) (by omega), zj_eq, iI_natN (by omega), hM.2.2 j hj, hd, li_1, iI_add]
      by_cases q : nu ρ (ρ j) = s
      · have hv : dtS P w ρ s j = (laR P w j : Int) - (fiR P w j : Int) + 1 := by unfold dtS slc; rw [decide_eq_true q, if_pos rfl]
        rw [if_pos (by rw [q]), zb1_eq, hv]
        dsimp only
        rw [zn_eq, iI_add]; rfl
      · have hv : dtS P w ρ s j = 0 := by unfold dtS slc; rw [decide_eq_false q, if_neg (by decide)]
        rw [feq_n (by omega) (by omega) (by omega), hv]
        dsimp only
        rw [zn_eq, li_0, iI_add]; rfl
    · show fX5_dotsTogether_L4 (iI s) M (iI (nR P w : Int)) _ = _
      unfold fX5_dotsTogether_L4
      rw [hM.1.1, fle_p (by omega) (by omega) (by omega)]
  unfold fX5_dotsTogether
  rw [li_0, hl, zb1_eq]
theorem c_runsT {M : zMem} {P : Nat → Nat → Bool} {w s : Nat} {ρ : Nat → Nat} (hw : w ≤ 24) (hM : cSt P w M ρ) (hρ : rOK P w ρ) (hs : s ≤ 384) : fX5_runsTogether (iI s) M = some (iI (fb_si (rnS ρ s) (nR P w))) := by
  have hN := nR_le P hw
  have hl : zlp (zu2 (fX5_runsTogether_L4 (iI s) M)) zfu (iI 0, iI 0) = some (iI (nR P w), iI (fb_si (rnS ρ s) (nR P w))) := by
    refine zlp_seq (S := fun j => (iI (j : Int), iI (fb_si (rnS ρ s) j))) _ (nR P w) (by omega) rfl (fun j hj => ?_) ?_
    · show fX5_runsTogether_L4 (iI s) M (iI (j : Int)) (iI (fb_si (rnS ρ s) j)) = some (.inl (iI ((j + 1 : Nat) : Int), iI (fb_si (rnS ρ s) (j + 1))))
      have hr := (hρ.1 j).1
      have hnu := nu_le ρ (ρ j)
      rw [fb_si_succ]
      unfold fX5_runsTogether_L4 rnS slc
      rw [hM.1.1, fle_n (by omega) (by omega) (by omega), zc_in (by omega) (by omega) (by omega), zn_eq, iI_natN (by omega), hM.2.2 j hj, li_1, iI_add]
      by_cases q : nu ρ (ρ j) = s
      · rw [if_pos (by rw [q]), decide_eq_true q, if_pos rfl, iI_add]; rfl
      · rw [feq_n (by omega) (by omega) (by omega), decide_eq_false q, if_neg (by decide), li_0, iI_add]; rfl
    · show fX5_runsTogether_L4 (iI s) M (iI (nR P w : Int)) _ = _
      unfold fX5_runsTogether_L4
      rw [hM.1.1, fle_p (by omega) (by omega) (by omega)]
  unfold fX5_runsTogether
  rw [li_0, hl, zb1_eq]
