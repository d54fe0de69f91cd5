/-! sharpness -/
def sqI (x : Int) : Int := x * x
def shF (P : Nat → Nat → Bool) (a : Nat) (s : Int) (w : Nat) (c : Int) (n : Nat) : Int := sqI ((prf P a s w ((n : Int) - c + 1) : Int) - (prf P a s w ((n : Int) - c) : Int))
def shp (P : Nat → Nat → Bool) (a : Nat) (s : Int) (w : Nat) : Int := fb_si (shF P a s w 32) 87
theorem shF_eq {P : Nat → Nat → Bool} {a : Nat} {s : Int} {w : Nat} {c x y : Int} {n : Nat} (hx : x = (n : Int) - c + 1) (hy : y = (n : Int) - c) : ((prf P a s w x : Int) - (prf P a s w y : Int)) * ((prf P a s w x : Int) - (prf P a s w y : Int)) = shF P a s w c n := by
  unfold shF sqI
  rw [hx, hy]
theorem c_sharpL {M1 : zMem} {w a : Nat} {s : Int} {P : Nat → Nat → Bool} (g2 : ∀ j : Nat, j < 86 → M1 23 j = iI (prf P a s w ((j : Int) - 31))) (j : Nat) (hj : j < 86) : fX3_sharpness_L27 M1 (iI (j : Int)) (iI (prf P a s w ((j : Int) - 32))) (iI (fb_si (shF P a s w 32) j)) = some (Sum.inl (iI ((j + 1 : Nat) : Int), iI (prf P a s w (((j + 1 : Nat) : Int) - 32)), iI (fb_si (shF P a s w 32) (j + 1)))) := by
  unfold fX3_sharpness_L27
  rw [show (86 : Int32) = iI 86 from rfl, fle_n (by omega) (by omega) (by omega), zc_in (by omega) (by omega) (by omega), zn_eq, iI_natN (by omega), g2 j hj, zn_eq, iI_sub, iI_mul, iI_add, li_1, iI_add, fb_si_succ, shF_eq (n := j) (c := 32) (by omega) (by omega), show (((j + 1 : Nat) : Int) - 32) = (j : Int) - 31 by omega, show ((j + 1 : Nat) : Int) = (j : Int) + 1 by omega]
theorem c_sharpE {w a : Nat} {s : Int} {P : Nat → Nat → Bool} {n : Nat} (h : prf P a s w ((n : Int) - 32 + 1) = 0) : fb_si (shF P a s w 32) n + (prf P a s w ((n : Int) - 32) : Int) * (prf P a s w ((n : Int) - 32) : Int) = fb_si (shF P a s w 32) (n + 1) := by
  rw [fb_si_succ]
  unfold shF sqI
  rw [h, show ((0 : Nat) : Int) = 0 from rfl, Int.zero_sub, Int.neg_mul_neg]
theorem c_sharpness {M : zMem} {w a : Nat} {s : Int} {P : Nat → Nat → Bool} (hP : cPg M w P) (ha : a < 2) (h1 : -16 ≤ s) (h2 : s ≤ 16) : ∃ M', fX3_sharpness (iI a) (iI s) M = some (iI (shp P a s w), M') ∧ ∀ c k, c ≠ 23 → M' c k = M c k := by
  obtain ⟨M1, e1, g1, g2⟩ := c_tally hP ha h1 h2
  have hw := hP.2.1
  refine ⟨M1, ?_, g1⟩
  have hl : zlp (zu3 (fX3_sharpness_L27 M1)) zfu (iI 0, iI 0, iI 0) = some (iI ((86 : Nat) : Int), iI (prf P a s w (((86 : Nat) : Int) - 32)), iI (fb_si (shF P a s w 32) 86)) := by
    refine zlp_seq (S := fun j => (iI (j : Int), iI (prf P a s w ((j : Int) - 32)), iI (fb_si (shF P a s w 32) j))) _ 86 (by omega) ?_ (fun j hj => c_sharpL g2 j hj) ?_
    · show _ = (iI 0, iI (prf P a s w (((0 : Nat) : Int) - 32)), iI 0)
      rw [prf_out hP.2.2.2.2 hw ha h1 h2 (by omega)]; rfl
    · show fX3_sharpness_L27 M1 (iI ((86 : Nat) : Int)) _ _ = _
      unfold fX3_sharpness_L27
      rw [show (86 : Int32) = iI 86 from rfl, fle_p (by omega) (by omega) (by omega)]
  unfold fX3_sharpness
  rw [e1, zb1_eq, li_0, hl, zb1_eq]
  show some (iI _ + iI _ * iI _, M1) = _
  have hz : prf P a s w (((86 : Nat) : Int) - 32 + 1) = 0 := prf_out hP.2.2.2.2 hw ha h1 h2 (by omega)
  rw [iI_mul, iI_add, c_sharpE hz]
  rfl
theorem si_zero {f : Nat → Int} : ∀ n, (∀ k, k < n → f k = 0) → fb_si f n = 0
  | 0, _ => rfl
  | n + 1, h => by rw [fb_si_succ, si_zero n (fun k hk => h k (by omega)), h n (by omega)]; rfl
theorem r_sharpL {M1 : zMem} {w a : Nat} {s : Int} {P : Nat → Nat → Bool} (g2 : ∀ j : Nat, j < 201 → M1 65 j = iI (prf P a s w ((j : Int) - 100))) (j : Nat) (hj : j < 200) : fX7_sharpness_L11 M1 (iI ((j : Int) + 1)) (iI (fb_si (shF P a s w 100) j)) = some (Sum.inl (iI (((j + 1 : Nat) : Int) + 1), iI (fb_si (shF P a s w 100) (j + 1)))) := by
  unfold fX7_sharpness_L11
  rw [li_201, fle_n (by omega) (by omega) (by omega), zc_in (by omega) (by omega) (by omega), li_1, iI_sub, zc_in (by omega) (by omega) (by omega), iI_nat (by omega) (by omega), iI_nat (z := (j : Int) + 1 - 1) (by omega) (by omega), g2 _ (by omega), g2 _ (by omega), zn_eq, iI_sub, zn_eq, iI_mul, iI_add, iI_add, fb_si_succ, shF_eq (n := j) (c := 100) (by omega) (by omega), show ((j + 1 : Nat) : Int) = (j : Int) + 1 by omega]
theorem r_sharpE {w a : Nat} {s : Int} {P : Nat → Nat → Bool} (n m k : Nat) (hn : ∀ i, i < n → shF P a s w 100 i = 0) (hk : ∀ i, i < k → shF P a s w 100 (n + (m + i)) = 0) (h : (n : Int) = 68) : fb_si (shF P a s w 100) (n + (m + k)) = fb_si (shF P a s w 32) m := by
  rw [fb_si_split, fb_si_split, si_zero n hn, si_zero k hk, Int.zero_add, Int.add_zero]
  apply fb_si_cong
  intro i hi
  unfold shF
  rw [show ((n + i : Nat) : Int) - 100 = (i : Int) - 32 by omega]
theorem r_sharpness {M : zMem} {w a : Nat} {s : Int} {P : Nat → Nat → Bool} (hP : rPg M w P) (ha : a < 2) (h1 : -16 ≤ s) (h2 : s ≤ 16) : ∃ M', fX7_sharpness (iI a) (iI s) M = some (iI (shp P a s w), M') ∧ ∀ c k, c ≠ 65 → M' c k = M c k := by
  obtain ⟨M1, e1, g1, g2⟩ := r_findP hP ha h1 h2
  have hw := hP.2.1
  refine ⟨M1, ?_, g1⟩
  have hl : zlp (zu2 (fX7_sharpness_L11 M1)) zfu (iI 1, iI 0) = some (iI (((200 : Nat) : Int) + 1), iI (fb_si (shF P a s w 100) 200)) := by
    refine zlp_seq (S := fun j => (iI ((j : Int) + 1), iI (fb_si (shF P a s w 100) j))) _ 200 (by omega) rfl (fun j hj => r_sharpL g2 j hj) ?_
    · show fX7_sharpness_L11 M1 (iI (((200 : Nat) : Int) + 1)) _ = _
      unfold fX7_sharpness_L11
      rw [li_201, fle_p (by omega) (by omega) (by omega)]
  have hs : fb_si (shF P a s w 100) 200 = shp P a s w := by
    refine r_sharpE 68 87 45 ?_ ?_ rfl
    · intro k hk
      unfold shF
      rw [prf_out hP.2.2.2.2 hw ha h1 h2 (by omega), prf_out hP.2.2.2.2 hw ha h1 h2 (by omega)]; rfl
    · intro k hk
      unfold shF
      rw [prf_out hP.2.2.2.2 hw ha h1 h2 (by omega), prf_out hP.2.2.2.2 hw ha h1 h2 (by omega)]; rfl
  unfold fX7_sharpness
  rw [e1, zb1_eq, li_0, li_1, hl, zb1_eq, hs]
theorem Ag_c {M M' : zMem} {c0 : Nat} (hc : c0 = 23 ∨ c0 = 65) (h : ∀ c k, c ≠ c0 → M' c k = M c k) : Ag M M' := fun c k hk => h c k (by intro e; rw [e] at hk; rcases hc with rfl | rfl <;> simp [relv] at hk)
theorem st_sharp {M : zMem} (h : Rl M) (p q : Int32) : ∃ o M1 M2, fX6_sharp p q M = some (o, M1) ∧ fX7_sharp p q M1 = some (o, M2) ∧ Rl M2 := by
  obtain ⟨a, a1, a2, rfl⟩ := iI_ex p
  obtain ⟨s, s1, s2, rfl⟩ := iI_ex q
  have hR := h
  obtain ⟨⟨w, P, h1, h2, -⟩, -⟩ := h
  by_cases ha : 0 ≤ a ∧ a < 2
  · by_cases hs : -16 ≤ s ∧ s ≤ 16
    · obtain ⟨a, rfl⟩ : ∃ n : Nat, a = n := ⟨a.toNat, by omega⟩
      obtain ⟨M1, e1, g1⟩ := c_sharpness h1 (by omega) hs.1 hs.2 (a := a) (s := s)
      have gA : Ag M M1 := Ag_c (Or.inl rfl) g1
      obtain ⟨M2, e2, g3⟩ := r_sharpness (rPg_ag h2 gA) (by omega) hs.1 hs.2 (a := a) (s := s)
      refine ⟨iI (shp P a s w), M1, M2, ?_, ?_, Rl_ag (Rl_ag hR gA) (Ag_c (Or.inr rfl) g3)⟩
      · unfold fX6_sharp
        rw [c_isAxis1 ha.1 ha.2, zb1_eq, if_neg (by decide), c_isShear1 hs.1 hs.2, zb1_eq, if_neg (by decide), e1, zb2_eq]
      · unfold fX7_sharp
        rw [r_isAxis1 ha.1 ha.2, zb1_eq, zj_eq, if_neg (by decide), r_isShear1 hs.1 hs.2, zb1_eq, if_neg (by decide), e2, zb2_eq]
    · exact ⟨iI (-2), M, M, by ((simp (disch := omega) only [zn_eq, zj_eq, zb1_eq, zb2_eq, zb3_eq, zbr_l, zbr_r, zc_in, iI_add, iI_sub, iI_mul, iI_neg, iI_lt, iI_le, iI_eq, zwr_zwr, zwa_zwa, zwr_s, zwr_o, zwr_O, zwr_k, zwa_s, zwa_S, zwa_o, zwa_O, upd_s, upd_o, if_true, if_false, if_pos, if_neg, iI_natN, iI_nat, Int.toNat_natCast, c_isRow1, c_isRow0, c_isCard1, c_isCard0, r_within1, r_within0, r_isRow1, r_isRow0, r_isCard1, r_isCard0, c_isAxis1, c_isAxis0, c_isShear1, c_isShear0, r_isAxis1, r_isAxis0, r_isShear1, r_isShear0, zc_cp, li_0, li_1, li_2, li_3, li_4, li_5, li_6, li_7, li_8, li_9, li_10, li_11, li_12, li_15, li_16, li_18, li_22, li_23, li_24, li_28, li_31, li_32, li_33, li_40, li_52, li_53, li_63, li_64, li_85, li_86, li_96, li_99, li_100, li_127, li_128, li_200, li_201, li_384, li_768, li_1023, li_5376, li_6144, fX6_sharp]); try rfl), by ((simp (disch := omega) only [zn_eq, zj_eq, zb1_eq, zb2_eq, zb3_eq, zbr_l, zbr_r, zc_in, iI_add, iI_sub, iI_mul, iI_neg, iI_lt, iI_le, iI_eq, zwr_zwr, zwa_zwa, zwr_s, zwr_o, zwr_O, zwr_k, zwa_s, zwa_S, zwa_o, zwa_O, upd_s, upd_o, if_true, if_false, if_pos, if_neg, iI_natN, iI_nat, Int.toNat_natCast, c_isRow1, c_isRow0, c_isCard1, c_isCard0, r_within1, r_within0, r_isRow1, r_isRow0, r_isCard1, r_isCard0, c_isAxis1, c_isAxis0, c_isShear1, c_isShear0, r_isAxis1, r_isAxis0, r_isShear1, r_isShear0, zc_cp, li_0, li_1, li_2, li_3, li_4, li_5, li_6, li_7, li_8, li_9, li_10, li_11, li_12, li_15, li_16, li_18, li_22, li_23, li_24, li_28, li_31, li_32, li_33, li_40, li_52, li_53, li_63, li_64, li_85, li_86, li_96, li_99, li_100, li_127, li_128, li_200, li_201, li_384, li_768, li_1023, li_5376, li_6144, fX7_sharp]); try rfl), hR⟩
  · exact ⟨iI (-2), M, M, by ((simp (disch := omega) only [zn_eq, zj_eq, zb1_eq, zb2_eq, zb3_eq, zbr_l, zbr_r, zc_in, iI_add, iI_sub, iI_mul, iI_neg, iI_lt, iI_le, iI_eq, zwr_zwr, zwa_zwa, zwr_s, zwr_o, zwr_O, zwr_k, zwa_s, zwa_S, zwa_o, zwa_O, upd_s, upd_o, if_true, if_false, if_pos, if_neg, iI_natN, iI_nat, Int.toNat_natCast, c_isRow1, c_isRow0, c_isCard1, c_isCard0, r_within1, r_within0, r_isRow1, r_isRow0, r_isCard1, r_isCard0, c_isAxis1, c_isAxis0, c_isShear1, c_isShear0, r_isAxis1, r_isAxis0, r_isShear1, r_isShear0, zc_cp, li_0, li_1, li_2, li_3, li_4, li_5, li_6, li_7, li_8, li_9, li_10, li_11, li_12, li_15, li_16, li_18, li_22, li_23, li_24, li_28, li_31, li_32, li_33, li_40, li_52, li_53, li_63, li_64, li_85, li_86, li_96, li_99, li_100, li_127, li_128, li_200, li_201, li_384, li_768, li_1023, li_5376, li_6144, fX6_sharp]); try rfl), by ((simp (disch := omega) only [zn_eq, zj_eq, zb1_eq, zb2_eq, zb3_eq, zbr_l, zbr_r, zc_in, iI_add, iI_sub, iI_mul, iI_neg, iI_lt, iI_le, iI_eq, zwr_zwr, zwa_zwa, zwr_s, zwr_o, zwr_O, zwr_k, zwa_s, zwa_S, zwa_o, zwa_O, upd_s, upd_o, if_true, if_false, if_pos, if_neg, iI_natN, iI_nat, Int.toNat_natCast, c_isRow1, c_isRow0, c_isCard1, c_isCard0, r_within1, r_within0, r_isRow1, r_isRow0, r_isCard1, r_isCard0, c_isAxis1, c_isAxis0, c_isShear1, c_isShear0, r_isAxis1, r_isAxis0, r_isShear1, r_isShear0, zc_cp, li_0, li_1, li_2, li_3, li_4, li_5, li_6, li_7, li_8, li_9, li_10, li_11, li_12, li_15, li_16, li_18, li_22, li_23, li_24, li_28, li_31, li_32, li_33, li_40, li_52, li_53, li_63, li_64, li_85, li_86, li_96, li_99, li_100, li_127, li_128, li_200, li_201, li_384, li_768, li_1023, li_5376, li_6144, fX7_sharp]); try rfl), hR⟩
