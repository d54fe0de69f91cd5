/-! loops that fill a stretch of an array -/
theorem lp_wr {body : Int32 × zMem → Option ((Int32 × zMem) ⊕ (Int32 × zMem))} (N o c : Nat) (g : Nat → Int32) (M : zMem) (hN : N ≤ 10000)
    (hs : ∀ i, i < N → ∀ Mi : zMem, Mi = zwa M c (fun y => if o ≤ y ∧ y < o + i then g (y - o) else M c y) → body (iI i, Mi) = some (.inl (iI ((i + 1 : Nat) : Int), zwr Mi c (o + i) (g i))))
    (hx : ∀ Mi : zMem, Mi = zwa M c (fun y => if o ≤ y ∧ y < o + N then g (y - o) else M c y) → body (iI N, Mi) = some (.inr (iI N, Mi))) :
    zlp body zfu (iI 0, M) = some (iI N, zwa M c (fun y => if o ≤ y ∧ y < o + N then g (y - o) else M c y)) := by
  refine zlp_seq (S := fun i => (iI (i : Int), zwa M c (fun y => if o ≤ y ∧ y < o + i then g (y - o) else M c y))) _ N (by omega) ?_ (fun i hi => ?_) (hx _ rfl)
  · show _ = (iI 0, zwa M c (fun y => if o ≤ y ∧ y < o + 0 then g (y - o) else M c y))
    rw [zwa_ext (g := M c) (fun x => if_neg (by omega)), zwa_id]
  · rw [hs i hi _ rfl, zwa_zwr]
    congr 3
    apply zwa_ext
    intro y
    unfold upd
    dsimp only
    by_cases a : y = o + i
    · rw [if_pos a, if_pos (by omega), show y - o = i by omega]
    · rw [if_neg a]
      by_cases b : o ≤ y ∧ y < o + i
      · rw [if_pos b, if_pos (by omega)]
      · rw [if_neg b, if_neg (by omega)]
theorem nI8 {x : Nat} (hx : x < 16) : (iI (x : Int) - iI (x : Int) / (8 : Int32) * (8 : Int32)) = iI ((x % 8 : Nat) : Int) := by
  have : ∀ x : Nat, x < 16 → (iI (x : Int) - iI (x : Int) / (8 : Int32) * (8 : Int32)) = iI ((x % 8 : Nat) : Int) := by decide +kernel
  exact this x hx
/-! back -/
theorem c_takeBack {M : zMem} {n x : Nat} (hn : n + 1 ≤ 8) (hx : x < 8) (h1 : M 1 4 = iI ((n + 1 : Nat) : Int)) (h2 : M 1 5 = iI x) : fX4_takeBack M = some (zwa (zwr (zwr M 1 4 (iI n)) 1 5 (iI ((x + 7) % 8 : Nat))) 2 (fun k => if k < 24 then M (5 + (x + 7) % 8) k else M 2 k)) := by
  unfold fX4_takeBack
  have e : (iI ((n + 1 : Nat) : Int) - 1) = iI n := by rw [li_1, iI_sub]; congr 1; omega
  have e2 : iI (x : Int) + 8 - 1 = iI ((x + 7 : Nat) : Int) := by rw [li_8, li_1, iI_add, iI_sub]; congr 1; omega
  rw [h1, li_0, feq_n (by omega) (by omega) (by omega), e, zn_eq]
  rw [zwr_k (by omega), h2, e2, nI8 (by omega), zn_eq, zwr_s, zc_in (by omega) (by omega) (by omega), iI_natN (by omega), li_24, zc_cp (by omega) (by omega) (by omega) (by omega) (by omega) (by omega) (by omega), zn_eq]
  congr 1
  rw [iI_nat (by omega) (by omega), iI_nat (by omega) (by omega)]
  rw [zwr_O (by omega), zwr_O (by omega), zwr_O (by omega), zwr_O (by omega)]
  apply zwa_ext
  intro k
  unfold va_cpy
  by_cases q : k < 24
  · rw [if_pos q, if_pos (by omega)]
    congr 1; omega
  · rw [if_neg q, if_neg (by omega)]
theorem st_back {M : zMem} (h : Rl M) : ∃ o M1 M2, fX6_back M = some (o, M1) ∧ fX7_back M1 = some (o, M2) ∧ Rl M2 := by
  have hR := h
  obtain ⟨⟨w, P, h1, h2, n, x, h3, hx, m1, m2, m3, m4⟩, h4, h5⟩ := h
  cases n with
  | zero =>
    refine ⟨iI (-3), M, M, ?_, ?_, hR⟩
    · unfold fX6_back fX4_moves
      rw [m1, zb1_eq]; rfl
    · unfold fX7_back
      rw [m2]; rfl
  | succ n =>
    obtain ⟨Q, q1, q2, q3⟩ := m4 0 (by omega)
    rw [show n + 1 - 1 - 0 = n by omega, show x + 7 - 0 = x + 7 by omega] at *
    obtain ⟨M1, eM1⟩ : ∃ M1, M1 = zwa (zwr (zwr M 1 4 (iI n)) 1 5 (iI ((x + 7) % 8 : Nat))) 2 (fun k => if k < 24 then M (5 + (x + 7) % 8) k else M 2 k) := ⟨_, rfl⟩
    have e1 : fX6_back M = some (iI n, M1) := by
      unfold fX6_back fX4_moves
      rw [m1, zb1_eq, li_0, feq_n (by omega) (by omega) (by omega), c_takeBack (by omega) hx m1 m3, ← eM1, zb1_eq, zb1_eq]
      congr 2
      rw [eM1]; ((simp (disch := omega) only [zn_eq, zj_eq, zb1_eq, zb2_eq, zb3_eq, zbr_l, zbr_r, zc_in, iI_add, iI_sub, iI_mul, iI_neg, iI_lt, iI_le, iI_eq, zwr_zwr, zwa_zwa, zwr_s, zwr_o, zwr_O, zwr_k, zwa_s, zwa_S, zwa_o, zwa_O, upd_s, upd_o, if_true, if_false, if_pos, if_neg, iI_natN, iI_nat, Int.toNat_natCast, c_isRow1, c_isRow0, c_isCard1, c_isCard0, r_within1, r_within0, r_isRow1, r_isRow0, r_isCard1, r_isCard0, li_0, li_1, li_2, li_3, li_4, li_5, li_6, li_7, li_8, li_9, li_10, li_11, li_12, li_15, li_16, li_18, li_22, li_23, li_24, li_28, li_31, li_32, li_33, li_40, li_52, li_53, li_63, li_64, li_85, li_86, li_96, li_99, li_100, li_127, li_128, li_200, li_201, li_384, li_768, li_1023, li_5376, li_6144]); try rfl)
    obtain ⟨M0, eM0⟩ : ∃ M0, M0 = zwr M1 60 10 (iI n) := ⟨_, rfl⟩
    obtain ⟨M2, eM2⟩ : ∃ M2, M2 = zwa M0 61 (fun y => if 0 ≤ y ∧ y < 0 + 768 then b2 (Q ((y - 0) / 32) ((y - 0) % 32)) else M0 61 y) := ⟨_, rfl⟩
    have e2 : fX7_back M1 = some (iI n, M2) := by
      unfold fX7_back
      have b1 : M1 60 10 = iI ((n + 1 : Nat) : Int) := by rw [eM1]; simp (disch := omega) only [zn_eq, zj_eq, zb1_eq, zb2_eq, zb3_eq, zbr_l, zbr_r, zc_in, iI_add, iI_sub, iI_mul, iI_neg, iI_lt, iI_le, iI_eq, zwr_zwr, zwa_zwa, zwr_s, zwr_o, zwr_O, zwr_k, zwa_s, zwa_S, zwa_o, zwa_O, upd_s, upd_o, if_true, if_false, if_pos, if_neg, iI_natN, iI_nat, Int.toNat_natCast, c_isRow1, c_isRow0, c_isCard1, c_isCard0, r_within1, r_within0, r_isRow1, r_isRow0, r_isCard1, r_isCard0, li_0, li_1, li_2, li_3, li_4, li_5, li_6, li_7, li_8, li_9, li_10, li_11, li_12, li_15, li_16, li_18, li_22, li_23, li_24, li_28, li_31, li_32, li_33, li_40, li_52, li_53, li_63, li_64, li_85, li_86, li_96, li_99, li_100, li_127, li_128, li_200, li_201, li_384, li_768, li_1023, li_5376, li_6144]; exact m2
      have e : (iI ((n + 1 : Nat) : Int) - 1) = iI n := by rw [li_1, iI_sub]; congr 1; omega
      rw [b1, li_0, feq_n (by omega) (by omega) (by omega), e, zn_eq, ← eM0]
      have hl : zlp (zu2 fX7_back_L22) zfu (iI 0, M0) = some (iI 768, M2) := by
        rw [eM2]
        refine lp_wr 768 0 61 (fun y => b2 (Q (y / 32) (y % 32))) M0 (by omega) (fun i hi Mi eMi => ?_) (fun Mi eMi => ?_)
        · show fX7_back_L22 (iI i) Mi = _
          unfold fX7_back_L22
          have c1 : Mi 60 10 = iI n := by rw [eMi, eM0]; ((simp (disch := omega) only [zn_eq, zj_eq, zb1_eq, zb2_eq, zb3_eq, zbr_l, zbr_r, zc_in, iI_add, iI_sub, iI_mul, iI_neg, iI_lt, iI_le, iI_eq, zwr_zwr, zwa_zwa, zwr_s, zwr_o, zwr_O, zwr_k, zwa_s, zwa_S, zwa_o, zwa_O, upd_s, upd_o, if_true, if_false, if_pos, if_neg, iI_natN, iI_nat, Int.toNat_natCast, c_isRow1, c_isRow0, c_isCard1, c_isCard0, r_within1, r_within0, r_isRow1, r_isRow0, r_isCard1, r_isCard0, li_0, li_1, li_2, li_3, li_4, li_5, li_6, li_7, li_8, li_9, li_10, li_11, li_12, li_15, li_16, li_18, li_22, li_23, li_24, li_28, li_31, li_32, li_33, li_40, li_52, li_53, li_63, li_64, li_85, li_86, li_96, li_99, li_100, li_127, li_128, li_200, li_201, li_384, li_768, li_1023, li_5376, li_6144]); try rfl)
          have c2 : Mi 68 (768 * n + i) = b2 (Q (i / 32) (i % 32)) := by
            rw [eMi, eM0, eM1]
            simp (disch := omega) only [zn_eq, zj_eq, zb1_eq, zb2_eq, zb3_eq, zbr_l, zbr_r, zc_in, iI_add, iI_sub, iI_mul, iI_neg, iI_lt, iI_le, iI_eq, zwr_zwr, zwa_zwa, zwr_s, zwr_o, zwr_O, zwr_k, zwa_s, zwa_S, zwa_o, zwa_O, upd_s, upd_o, if_true, if_false, if_pos, if_neg, iI_natN, iI_nat, Int.toNat_natCast, c_isRow1, c_isRow0, c_isCard1, c_isCard0, r_within1, r_within0, r_isRow1, r_isRow0, r_isCard1, r_isCard0, li_0, li_1, li_2, li_3, li_4, li_5, li_6, li_7, li_8, li_9, li_10, li_11, li_12, li_15, li_16, li_18, li_22, li_23, li_24, li_28, li_31, li_32, li_33, li_40, li_52, li_53, li_63, li_64, li_85, li_86, li_96, li_99, li_100, li_127, li_128, li_200, li_201, li_384, li_768, li_1023, li_5376, li_6144]
            have := q2 (i / 32) (by omega) (i % 32) (by omega)
            rwa [show 768 * n + 32 * (i / 32) + i % 32 = 768 * n + i by omega] at this
          rw [c1, li_768, fle_n (by omega) (by omega) (by omega), iI_mul, iI_add, zc_in (by omega) (by omega) (by omega), zc_in (by omega) (by omega) (by omega), iI_natN (by omega), iI_nat (by omega) (by omega), show ((768 : Int) * n + i).toNat = 768 * n + i by omega, c2, b2_nar, zn_eq, li_1, iI_add, show 0 + i = i by omega]; rfl
        · show fX7_back_L22 (iI ((768 : Nat) : Int)) Mi = _
          unfold fX7_back_L22
          rw [li_768, fle_p (by omega) (by omega) (by omega)]
      rw [hl, zb1_eq]
      show some (M2 60 10, M2) = _
      congr 2
      rw [eM2, eM0]; ((simp (disch := omega) only [zn_eq, zj_eq, zb1_eq, zb2_eq, zb3_eq, zbr_l, zbr_r, zc_in, iI_add, iI_sub, iI_mul, iI_neg, iI_lt, iI_le, iI_eq, zwr_zwr, zwa_zwa, zwr_s, zwr_o, zwr_O, zwr_k, zwa_s, zwa_S, zwa_o, zwa_O, upd_s, upd_o, if_true, if_false, if_pos, if_neg, iI_natN, iI_nat, Int.toNat_natCast, c_isRow1, c_isRow0, c_isCard1, c_isCard0, r_within1, r_within0, r_isRow1, r_isRow0, r_isCard1, r_isCard0, li_0, li_1, li_2, li_3, li_4, li_5, li_6, li_7, li_8, li_9, li_10, li_11, li_12, li_15, li_16, li_18, li_22, li_23, li_24, li_28, li_31, li_32, li_33, li_40, li_52, li_53, li_63, li_64, li_85, li_86, li_96, li_99, li_100, li_127, li_128, li_200, li_201, li_384, li_768, li_1023, li_5376, li_6144]); try rfl)
    refine ⟨_, _, _, e1, e2, ⟨w, Q, ⟨h1.1, h1.2.1, ?_, fun k hk r hr => ?_, q3⟩, ⟨h1.1, h1.2.1, ?_, fun k hk r hr => ?_, q3⟩, n, (x + 7) % 8, by omega, by omega, ?_, ?_, ?_, fun i hi => ?_⟩, fun j hj => ?_, ?_⟩
    · rw [eM2, eM0, eM1]; simp (disch := omega) only [zn_eq, zj_eq, zb1_eq, zb2_eq, zb3_eq, zbr_l, zbr_r, zc_in, iI_add, iI_sub, iI_mul, iI_neg, iI_lt, iI_le, iI_eq, zwr_zwr, zwa_zwa, zwr_s, zwr_o, zwr_O, zwr_k, zwa_s, zwa_S, zwa_o, zwa_O, upd_s, upd_o, if_true, if_false, if_pos, if_neg, iI_natN, iI_nat, Int.toNat_natCast, c_isRow1, c_isRow0, c_isCard1, c_isCard0, r_within1, r_within0, r_isRow1, r_isRow0, r_isCard1, r_isCard0, li_0, li_1, li_2, li_3, li_4, li_5, li_6, li_7, li_8, li_9, li_10, li_11, li_12, li_15, li_16, li_18, li_22, li_23, li_24, li_28, li_31, li_32, li_33, li_40, li_52, li_53, li_63, li_64, li_85, li_86, li_96, li_99, li_100, li_127, li_128, li_200, li_201, li_384, li_768, li_1023, li_5376, li_6144]; exact h1.2.2.1
    · rw [eM2, eM0, eM1]; simp (disch := omega) only [zn_eq, zj_eq, zb1_eq, zb2_eq, zb3_eq, zbr_l, zbr_r, zc_in, iI_add, iI_sub, iI_mul, iI_neg, iI_lt, iI_le, iI_eq, zwr_zwr, zwa_zwa, zwr_s, zwr_o, zwr_O, zwr_k, zwa_s, zwa_S, zwa_o, zwa_O, upd_s, upd_o, if_true, if_false, if_pos, if_neg, iI_natN, iI_nat, Int.toNat_natCast, c_isRow1, c_isRow0, c_isCard1, c_isCard0, r_within1, r_within0, r_isRow1, r_isRow0, r_isCard1, r_isCard0, li_0, li_1, li_2, li_3, li_4, li_5, li_6, li_7, li_8, li_9, li_10, li_11, li_12, li_15, li_16, li_18, li_22, li_23, li_24, li_28, li_31, li_32, li_33, li_40, li_52, li_53, li_63, li_64, li_85, li_86, li_96, li_99, li_100, li_127, li_128, li_200, li_201, li_384, li_768, li_1023, li_5376, li_6144]; exact q1 k hk r hr
    · rw [eM2, eM0, eM1]; simp (disch := omega) only [zn_eq, zj_eq, zb1_eq, zb2_eq, zb3_eq, zbr_l, zbr_r, zc_in, iI_add, iI_sub, iI_mul, iI_neg, iI_lt, iI_le, iI_eq, zwr_zwr, zwa_zwa, zwr_s, zwr_o, zwr_O, zwr_k, zwa_s, zwa_S, zwa_o, zwa_O, upd_s, upd_o, if_true, if_false, if_pos, if_neg, iI_natN, iI_nat, Int.toNat_natCast, c_isRow1, c_isRow0, c_isCard1, c_isCard0, r_within1, r_within0, r_isRow1, r_isRow0, r_isCard1, r_isCard0, li_0, li_1, li_2, li_3, li_4, li_5, li_6, li_7, li_8, li_9, li_10, li_11, li_12, li_15, li_16, li_18, li_22, li_23, li_24, li_28, li_31, li_32, li_33, li_40, li_52, li_53, li_63, li_64, li_85, li_86, li_96, li_99, li_100, li_127, li_128, li_200, li_201, li_384, li_768, li_1023, li_5376, li_6144]; exact h2.2.2.1
    · rw [eM2]; simp (disch := omega) only [zn_eq, zj_eq, zb1_eq, zb2_eq, zb3_eq, zbr_l, zbr_r, zc_in, iI_add, iI_sub, iI_mul, iI_neg, iI_lt, iI_le, iI_eq, zwr_zwr, zwa_zwa, zwr_s, zwr_o, zwr_O, zwr_k, zwa_s, zwa_S, zwa_o, zwa_O, upd_s, upd_o, if_true, if_false, if_pos, if_neg, iI_natN, iI_nat, Int.toNat_natCast, c_isRow1, c_isRow0, c_isCard1, c_isCard0, r_within1, r_within0, r_isRow1, r_isRow0, r_isCard1, r_isCard0, li_0, li_1, li_2, li_3, li_4, li_5, li_6, li_7, li_8, li_9, li_10, li_11, li_12, li_15, li_16, li_18, li_22, li_23, li_24, li_28, li_31, li_32, li_33, li_40, li_52, li_53, li_63, li_64, li_85, li_86, li_96, li_99, li_100, li_127, li_128, li_200, li_201, li_384, li_768, li_1023, li_5376, li_6144]
      rw [show (32 * k + r - 0) / 32 = k by omega, show (32 * k + r - 0) % 32 = r by omega]
    · rw [eM2, eM0, eM1]; ((simp (disch := omega) only [zn_eq, zj_eq, zb1_eq, zb2_eq, zb3_eq, zbr_l, zbr_r, zc_in, iI_add, iI_sub, iI_mul, iI_neg, iI_lt, iI_le, iI_eq, zwr_zwr, zwa_zwa, zwr_s, zwr_o, zwr_O, zwr_k, zwa_s, zwa_S, zwa_o, zwa_O, upd_s, upd_o, if_true, if_false, if_pos, if_neg, iI_natN, iI_nat, Int.toNat_natCast, c_isRow1, c_isRow0, c_isCard1, c_isCard0, r_within1, r_within0, r_isRow1, r_isRow0, r_isCard1, r_isCard0, li_0, li_1, li_2, li_3, li_4, li_5, li_6, li_7, li_8, li_9, li_10, li_11, li_12, li_15, li_16, li_18, li_22, li_23, li_24, li_28, li_31, li_32, li_33, li_40, li_52, li_53, li_63, li_64, li_85, li_86, li_96, li_99, li_100, li_127, li_128, li_200, li_201, li_384, li_768, li_1023, li_5376, li_6144]); try rfl)
    · rw [eM2, eM0, eM1]; ((simp (disch := omega) only [zn_eq, zj_eq, zb1_eq, zb2_eq, zb3_eq, zbr_l, zbr_r, zc_in, iI_add, iI_sub, iI_mul, iI_neg, iI_lt, iI_le, iI_eq, zwr_zwr, zwa_zwa, zwr_s, zwr_o, zwr_O, zwr_k, zwa_s, zwa_S, zwa_o, zwa_O, upd_s, upd_o, if_true, if_false, if_pos, if_neg, iI_natN, iI_nat, Int.toNat_natCast, c_isRow1, c_isRow0, c_isCard1, c_isCard0, r_within1, r_within0, r_isRow1, r_isRow0, r_isCard1, r_isCard0, li_0, li_1, li_2, li_3, li_4, li_5, li_6, li_7, li_8, li_9, li_10, li_11, li_12, li_15, li_16, li_18, li_22, li_23, li_24, li_28, li_31, li_32, li_33, li_40, li_52, li_53, li_63, li_64, li_85, li_86, li_96, li_99, li_100, li_127, li_128, li_200, li_201, li_384, li_768, li_1023, li_5376, li_6144]); try rfl)
    · rw [eM2, eM0, eM1]; ((simp (disch := omega) only [zn_eq, zj_eq, zb1_eq, zb2_eq, zb3_eq, zbr_l, zbr_r, zc_in, iI_add, iI_sub, iI_mul, iI_neg, iI_lt, iI_le, iI_eq, zwr_zwr, zwa_zwa, zwr_s, zwr_o, zwr_O, zwr_k, zwa_s, zwa_S, zwa_o, zwa_O, upd_s, upd_o, if_true, if_false, if_pos, if_neg, iI_natN, iI_nat, Int.toNat_natCast, c_isRow1, c_isRow0, c_isCard1, c_isCard0, r_within1, r_within0, r_isRow1, r_isRow0, r_isCard1, r_isCard0, li_0, li_1, li_2, li_3, li_4, li_5, li_6, li_7, li_8, li_9, li_10, li_11, li_12, li_15, li_16, li_18, li_22, li_23, li_24, li_28, li_31, li_32, li_33, li_40, li_52, li_53, li_63, li_64, li_85, li_86, li_96, li_99, li_100, li_127, li_128, li_200, li_201, li_384, li_768, li_1023, li_5376, li_6144]); try rfl)
    · obtain ⟨Q', p1, p2, p3⟩ := m4 (i + 1) (by omega)
      refine ⟨Q', fun k hk r hr => ?_, fun k hk r hr => ?_, p3⟩
      · rw [eM2, eM0, eM1]; simp (disch := omega) only [zn_eq, zj_eq, zb1_eq, zb2_eq, zb3_eq, zbr_l, zbr_r, zc_in, iI_add, iI_sub, iI_mul, iI_neg, iI_lt, iI_le, iI_eq, zwr_zwr, zwa_zwa, zwr_s, zwr_o, zwr_O, zwr_k, zwa_s, zwa_S, zwa_o, zwa_O, upd_s, upd_o, if_true, if_false, if_pos, if_neg, iI_natN, iI_nat, Int.toNat_natCast, c_isRow1, c_isRow0, c_isCard1, c_isCard0, r_within1, r_within0, r_isRow1, r_isRow0, r_isCard1, r_isCard0, li_0, li_1, li_2, li_3, li_4, li_5, li_6, li_7, li_8, li_9, li_10, li_11, li_12, li_15, li_16, li_18, li_22, li_23, li_24, li_28, li_31, li_32, li_33, li_40, li_52, li_53, li_63, li_64, li_85, li_86, li_96, li_99, li_100, li_127, li_128, li_200, li_201, li_384, li_768, li_1023, li_5376, li_6144]
        have := p1 k hk r hr
        rwa [show (x + 7 - (i + 1)) % 8 = ((x + 7) % 8 + 7 - i) % 8 by omega] at this
      · rw [eM2, eM0, eM1]; simp (disch := omega) only [zn_eq, zj_eq, zb1_eq, zb2_eq, zb3_eq, zbr_l, zbr_r, zc_in, iI_add, iI_sub, iI_mul, iI_neg, iI_lt, iI_le, iI_eq, zwr_zwr, zwa_zwa, zwr_s, zwr_o, zwr_O, zwr_k, zwa_s, zwa_S, zwa_o, zwa_O, upd_s, upd_o, if_true, if_false, if_pos, if_neg, iI_natN, iI_nat, Int.toNat_natCast, c_isRow1, c_isRow0, c_isCard1, c_isCard0, r_within1, r_within0, r_isRow1, r_isRow0, r_isCard1, r_isCard0, li_0, li_1, li_2, li_3, li_4, li_5, li_6, li_7, li_8, li_9, li_10, li_11, li_12, li_15, li_16, li_18, li_22, li_23, li_24, li_28, li_31, li_32, li_33, li_40, li_52, li_53, li_63, li_64, li_85, li_86, li_96, li_99, li_100, li_127, li_128, li_200, li_201, li_384, li_768, li_1023, li_5376, li_6144]
        have := p2 k hk r hr
        rwa [show n + 1 - 1 - (i + 1) = n - 1 - i by omega] at this
    · refine crd_ag' hj (h4 j hj) ?_ ?_ ?_ ?_ ?_ ?_ <;> intros <;> rw [eM2, eM0, eM1] <;> ((simp (disch := omega) only [zn_eq, zj_eq, zb1_eq, zb2_eq, zb3_eq, zbr_l, zbr_r, zc_in, iI_add, iI_sub, iI_mul, iI_neg, iI_lt, iI_le, iI_eq, zwr_zwr, zwa_zwa, zwr_s, zwr_o, zwr_O, zwr_k, zwa_s, zwa_S, zwa_o, zwa_O, upd_s, upd_o, if_true, if_false, if_pos, if_neg, iI_natN, iI_nat, Int.toNat_natCast, c_isRow1, c_isRow0, c_isCard1, c_isCard0, r_within1, r_within0, r_isRow1, r_isRow0, r_isCard1, r_isCard0, li_0, li_1, li_2, li_3, li_4, li_5, li_6, li_7, li_8, li_9, li_10, li_11, li_12, li_15, li_16, li_18, li_22, li_23, li_24, li_28, li_31, li_32, li_33, li_40, li_52, li_53, li_63, li_64, li_85, li_86, li_96, li_99, li_100, li_127, li_128, li_200, li_201, li_384, li_768, li_1023, li_5376, li_6144]); try rfl)
    · rw [eM2, eM0, eM1]; simp (disch := omega) only [zn_eq, zj_eq, zb1_eq, zb2_eq, zb3_eq, zbr_l, zbr_r, zc_in, iI_add, iI_sub, iI_mul, iI_neg, iI_lt, iI_le, iI_eq, zwr_zwr, zwa_zwa, zwr_s, zwr_o, zwr_O, zwr_k, zwa_s, zwa_S, zwa_o, zwa_O, upd_s, upd_o, if_true, if_false, if_pos, if_neg, iI_natN, iI_nat, Int.toNat_natCast, c_isRow1, c_isRow0, c_isCard1, c_isCard0, r_within1, r_within0, r_isRow1, r_isRow0, r_isCard1, r_isCard0, li_0, li_1, li_2, li_3, li_4, li_5, li_6, li_7, li_8, li_9, li_10, li_11, li_12, li_15, li_16, li_18, li_22, li_23, li_24, li_28, li_31, li_32, li_33, li_40, li_52, li_53, li_63, li_64, li_85, li_86, li_96, li_99, li_100, li_127, li_128, li_200, li_201, li_384, li_768, li_1023, li_5376, li_6144]; exact h5
