/-! baseline, foot, curl -/
theorem si_bd {f : Nat → Int} : ∀ n, (∀ i, i < n → 0 ≤ f i ∧ f i < 32) → 0 ≤ fb_si f n ∧ fb_si f n ≤ 31 * (n : Int)
  | 0, _ => ⟨Int.le_refl _, Int.le_refl _⟩
  | n + 1, h => by
    have ih := si_bd n (fun i hi => h i (by omega))
    have := h n (by omega)
    rw [fb_si_succ]
    omega
def hgt (pt : Nat → Int) (L : Nat) : Nat := (2 * (fb_si pt L).toNat + L) / (2 * L)
theorem hgt_le {pt : Nat → Int} {L : Nat} (hL : 0 < L) (h : ∀ i, i < L → 0 ≤ pt i ∧ pt i < 32) : hgt pt L ≤ 31 := by
  have hb := si_bd L h
  unfold hgt
  have h1 : 2 * (fb_si pt L).toNat + L < 32 * (2 * L) := by omega
  have := (Nat.div_lt_iff_lt_mul (show 0 < 2 * L by omega)).mpr h1
  omega
theorem c_height {M : zMem} {L F : Nat} {pt : Nat → Int} (hL : 0 < L) (hL2 : L ≤ 24) (h : ∀ i, i < L → 0 ≤ pt i ∧ pt i < 32) (hM : cBl M L F pt) : fX0_height M = some (iI (hgt pt L)) := by
  have hb := si_bd L h
  unfold fX0_height
  rw [zj_eq, hM.1, hM.2.1, li_0, fle_n (by omega) (by omega) (by omega), li_2, iI_mul, iI_mul, iI_add, show (2 : Int) * (L : Int) = ((2 * L : Nat) : Int) by omega, show (2 : Int) * fb_si pt L + (L : Int) = ((2 * (fb_si pt L).toNat + L : Nat) : Int) by omega, iI_div (by omega) (by omega) (by omega), zc_t (by rw [decide_eq_true_iff, iI_eq (by omega) (by omega) (by omega) (by omega)]; omega)]
  rfl
theorem c_footRow {M : zMem} {L F : Nat} {pt : Nat → Int} {i : Nat} (hL2 : F + L ≤ 24) (hi : i < L) (hM : cBl M L F pt) : fX0_footRow (iI ((F + i : Nat) : Int)) M = some (iI (pt i)) := by
  obtain ⟨f1, f2⟩ := hM.2.2 (by omega)
  unfold fX0_footRow fX0_covers
  rw [zb1_eq, zj_eq, f1, hM.1, iI_add, flt_n (by omega) (by omega) (by omega), fle_n (by omega) (by omega) (by omega), if_neg (by decide), zc_in (by omega) (by omega) (by omega), iI_natN (by omega), f2 i hi]
/-- the place in the chain nearest to a column -/
def nrc (L F k : Nat) : Nat := if k < F then 0 else if k < F + L then k - F else L - 1
theorem nrc_lt {L F k : Nat} (hL : 0 < L) : nrc L F k < L := by
  unfold nrc
  by_cases q : k < F
  · rw [if_pos q]; omega
  · rw [if_neg q]
    by_cases g : k < F + L
    · rw [if_pos g]; omega
    · rw [if_neg g]; omega
def crl (L F : Nat) (pt : Nat → Int) (k : Nat) : Int := pt (nrc L F k) - (hgt pt L : Int)
theorem crl_bd {pt : Nat → Int} {L F : Nat} (hL : 0 < L) (h : ∀ i, i < L → 0 ≤ pt i ∧ pt i < 32) (k : Nat) : -31 ≤ crl L F pt k ∧ crl L F pt k ≤ 31 := by
  have h1 := hgt_le hL h
  have h2 := h _ (nrc_lt (F := F) (k := k) hL)
  unfold crl
  omega
theorem c_bend {M : zMem} {L F k : Nat} {pt : Nat → Int} (hL : 0 < L) (hL2 : F + L ≤ 24) (h : ∀ i, i < L → 0 ≤ pt i ∧ pt i < 32) (hM : cBl M L F pt) (hk : k < 100) : fX0_bend (iI k) M = some (iI (crl L F pt k)) := by
  obtain ⟨f1, f2⟩ := hM.2.2 hL
  have hn : zmmax (iI F) (zmmin (iI k) (iI F + iI L - iI 1)) = iI ((F + nrc L F k : Nat) : Int) := by
    rw [iI_add, iI_sub]
    unfold zmmax zmmin nrc
    by_cases q : k < F
    · rw [if_pos q, flt_n (by omega) (by omega) (by omega), flt_n (by omega) (by omega) (by omega)]; rfl
    · rw [if_neg q]
      by_cases g : k < F + L
      · rw [if_pos g, flt_n (by omega) (by omega) (by omega)]
        by_cases s : F = k
        · rw [flt_n (by omega) (by omega) (by omega)]; congr 1; omega
        · rw [flt_p (by omega) (by omega) (by omega)]; congr 1; omega
      · rw [if_neg g, flt_p (by omega) (by omega) (by omega)]
        by_cases s : L = 1
        · rw [flt_n (by omega) (by omega) (by omega)]; congr 1; omega
        · rw [flt_p (by omega) (by omega) (by omega)]; congr 1; omega
  unfold fX0_bend
  rw [f1, hM.1, li_1, hn, zn_eq, c_footRow hL2 (nrc_lt hL) hM, zb1_eq, c_height hL (by omega) h hM, zb1_eq, iI_sub]
  rfl
theorem r_sumOf {M : zMem} {L F : Nat} {pt : Nat → Int} (hL : 0 < L) (hL2 : F + L ≤ 24) (hM : rBl M L F pt) : fX7_rowsTogether M = some (iI (fb_si pt L)) := by
  obtain ⟨f1, f2⟩ := hM.2 hL
  unfold fX7_rowsTogether
  rw [li_0, lp_sum L pt (by omega) 0]
  · rw [zb1_eq, Int.zero_add]
  · intro i hi x
    show fX7_rowsTogether_L4 M (iI i) (iI x) = _
    unfold fX7_rowsTogether_L4
    rw [hM.1, fle_n (by omega) (by omega) (by omega), f1, iI_add, zc_in (by omega) (by omega) (by omega), zn_eq, iI_nat (by omega) (by omega), show ((F : Int) + (i : Int)).toNat = F + i by omega, f2 i hi, iI_add, li_1, iI_add]; rfl
  · intro x
    show fX7_rowsTogether_L4 M (iI L) (iI x) = _
    unfold fX7_rowsTogether_L4
    rw [hM.1, fle_p (by omega) (by omega) (by omega)]
theorem r_levelOf {M : zMem} {L F : Nat} {pt : Nat → Int} (hL : 0 < L) (hL2 : F + L ≤ 24) (h : ∀ i, i < L → 0 ≤ pt i ∧ pt i < 32) (hM : rBl M L F pt) : fX7_levelOf M = some (iI (hgt pt L)) := by
  have hb := si_bd L h
  unfold fX7_levelOf fX7_rounded fX7_down
  rw [r_sumOf hL hL2 hM, zb1_eq, hM.1, li_2, iI_mul, iI_mul, iI_add, show (2 : Int) * (L : Int) = ((2 * L : Nat) : Int) by omega, show (2 : Int) * fb_si pt L + (L : Int) = ((2 * (fb_si pt L).toNat + L : Nat) : Int) by omega]
  rw [zj_eq, li_0, flt_n (by omega) (by omega) (by omega), zc_t (by rw [decide_eq_true_iff, iI_eq (by omega) (by omega) (by omega) (by omega)]; omega), iI_div (by omega) (by omega) (by omega), zb1_eq]
  rfl
theorem r_curls {M : zMem} {w L F : Nat} {P : Nat → Nat → Bool} {pt : Nat → Int} (hP : rPg M w P) (hL : 0 < L) (hL2 : F + L ≤ w) (h : ∀ i, i < L → 0 ≤ pt i ∧ pt i < 32) (hM : rBl M L F pt) : ∃ M', fX7_findCurls M = some M' ∧ (∀ k, k < w → M' 76 k = iI (crl L F pt k)) ∧ ∀ c j, c ≠ 76 → M' c j = M c j := by
  have hw := hP.2.1
  obtain ⟨f1, f2⟩ := hM.2 hL
  obtain ⟨b, hb, y, M', rfl, h1, h2⟩ : ∃ b, zlp (zu2 (fX7_findCurls_L14 (iI ((F : Int) + (L : Int) - 1)))) zfu (iI 0, M) = some b ∧ ∃ y M', b = (y, M') ∧ (∀ k, k < w → M' 76 k = iI (crl L F pt k)) ∧ ∀ c j, c ≠ 76 → M' c j = M c j := by
    refine zlp_inv (I := fun k p => p.1 = iI (k : Int) ∧ (∀ j, j < k → p.2 76 j = iI (crl L F pt j)) ∧ ∀ c j, c ≠ 76 → p.2 c j = M c j) _ w (by omega) ⟨rfl, fun j h => absurd h (by omega), fun _ _ _ => rfl⟩ ?_ ?_
    · rintro k ⟨y, M2⟩ hk ⟨e1, a1, a2⟩
      dsimp only at e1 a1 a2
      have hM2 : rBl M2 L F pt := ⟨by rw [a2 _ _ (by decide)]; exact hM.1, fun _ => ⟨by rw [a2 _ _ (by decide)]; exact f1, fun i hi => by rw [a2 _ _ (by decide)]; exact f2 i hi⟩⟩
      have hn : (if iI F ≤ iI k then (if iI k ≤ iI ((F : Int) + (L : Int) - 1) then iI k else iI ((F : Int) + (L : Int) - 1)) else iI F) = iI ((F + nrc L F k : Nat) : Int) := by
        unfold nrc
        by_cases q : k < F
        · rw [if_pos q, fle_n (by omega) (by omega) (by omega)]; rfl
        · rw [if_neg q, fle_p (by omega) (by omega) (by omega)]
          by_cases g : k < F + L
          · rw [if_pos g, fle_p (by omega) (by omega) (by omega)]; congr 1; omega
          · rw [if_neg g, fle_n (by omega) (by omega) (by omega)]; congr 1; omega
      have hnl := nrc_lt (L := L) (F := F) (k := k) hL
      refine Or.inl ⟨(iI ((k + 1 : Nat) : Int), zwr M2 76 k (iI (crl L F pt k))), ?_, rfl, ?_, ?_⟩
      · show fX7_findCurls_L14 (iI ((F : Int) + (L : Int) - 1)) y M2 = _
        unfold fX7_findCurls_L14
        rw [e1, a2 60 1 (by decide), hP.2.2.1, fle_n (by omega) (by omega) (by omega), a2 60 20 (by decide), f1, hn, zn_eq, zc_in (by omega) (by omega) (by omega), r_levelOf hL (by omega) h hM2, zb1_eq, zc_in (by omega) (by omega) (by omega), zn_eq, iI_natN (by omega), iI_natN (by omega), (hM2.2 hL).2 _ hnl, iI_sub, li_1, iI_add]; rfl
      · intro j hj
        dsimp only
        rcases (show j < k ∨ j = k by omega) with g | g
        · rw [zwr_k (by omega)]; exact a1 j g
        · rw [g, zwr_s]
      · intro c j hc
        dsimp only
        rw [zwr_o hc]; exact a2 c j hc
    · rintro ⟨y, M2⟩ ⟨e1, a1, a2⟩
      dsimp only at e1 a1 a2
      refine ⟨(y, M2), ?_, y, M2, rfl, a1, a2⟩
      show fX7_findCurls_L14 (iI ((F : Int) + (L : Int) - 1)) y M2 = _
      unfold fX7_findCurls_L14
      rw [e1, a2 60 1 (by decide), hP.2.2.1, fle_p (by omega) (by omega) (by omega)]
  refine ⟨M', ?_, h1, h2⟩
  unfold fX7_findCurls
  rw [zn_eq, f1, hM.1, iI_add, li_1, iI_sub, li_0, hb, zb1_eq]
theorem Ag_76 {M M' : zMem} (h : ∀ c k, c ≠ 76 → M' c k = M c k) : Ag M M' := fun c k hk => h c k (by intro e; rw [e] at hk; simp [relv] at hk)
/-- both sides find the same chain -/
theorem st_base {M : zMem} {w : Nat} {P : Nat → Nat → Bool} (h1 : cPg M w P) (h2 : rPg M w P) : ∃ L F pt M1, fX0_find M = some M1 ∧ cBl M1 L F pt ∧ cBo M M1 ∧ L ≤ 24 ∧ (0 < L → F + L ≤ w) ∧ (∀ i, i < L → 0 ≤ pt i ∧ pt i < 32) ∧ ∃ M2, fX7_findBaseline M1 = some M2 ∧ rBl M2 L F pt ∧ rLo M1 M2 := by
  obtain ⟨M1, L, F, R, e1, p, hL, t1, o1⟩ := c_base h1
  obtain ⟨M2, e2, t2, o2⟩ := r_base (rPg_ag h2 (cBo_ag o1)) p
  exact ⟨L, F, pth P w F R, M1, e1, t1, o1, hL, fun z => pk_w p z, fun i hi => ⟨(pth_ok h1.2.2.2.2 p (by omega) i hi).1, (pth_ok h1.2.2.2.2 p (by omega) i hi).2.1⟩, M2, e2, t2, o2⟩
theorem st_baseline {M : zMem} (h : Rl M) (p : Int32) : ∃ o M1 M2, fX6_baseline p M = some (o, M1) ∧ fX7_baseline p M1 = some (o, M2) ∧ Rl M2 := by
  obtain ⟨v, v1, v2, rfl⟩ := iI_ex p
  have hR := h
  obtain ⟨⟨w, P, h1, h2, -⟩, -⟩ := h
  have hw := h1.2.1
  by_cases hv : 0 ≤ v ∧ v ≤ 2
  · obtain ⟨L, F, pt, M1, e1, t1, o1, hL, hF, hpt, M2, e2, t2, o2⟩ := st_base h1 h2
    have hR2 : Rl M2 := Rl_ag (Rl_ag hR (cBo_ag o1)) (rLo_ag o2)
    have n1 := t1.1
    have n2 := t2.1
    rcases Nat.eq_zero_or_pos L with z | z
    · subst z
      refine ⟨iI (-9), M1, M2, ?_, ?_, hR2⟩
      · ((simp (disch := omega) only [zn_eq, zj_eq, zb1_eq, zb2_eq, zb3_eq, zbr_l, zbr_r, zc_in, iI_add, iI_sub, iI_mul, iI_neg, iI_lt, iI_le, iI_eq, zwr_zwr, zwa_zwa, zwr_s, zwr_o, zwr_O, zwr_k, zwa_s, zwa_S, zwa_o, zwa_O, upd_s, upd_o, if_true, if_false, if_pos, if_neg, iI_natN, iI_nat, Int.toNat_natCast, c_isRow1, c_isRow0, c_isCard1, c_isCard0, r_within1, r_within0, r_isRow1, r_isRow0, r_isCard1, r_isCard0, c_isAxis1, c_isAxis0, c_isShear1, c_isShear0, r_isAxis1, r_isAxis0, r_isShear1, r_isShear0, zc_cp, li_0, li_1, li_2, li_3, li_4, li_5, li_6, li_7, li_8, li_9, li_10, li_11, li_12, li_15, li_16, li_18, li_22, li_23, li_24, li_28, li_31, li_32, li_33, li_40, li_52, li_53, li_63, li_64, li_85, li_86, li_96, li_99, li_100, li_127, li_128, li_200, li_201, li_384, li_768, li_1023, li_5376, li_6144, fX6_baseline, e1, fX0_length, n1]); try rfl)
      · ((simp (disch := omega) only [zn_eq, zj_eq, zb1_eq, zb2_eq, zb3_eq, zbr_l, zbr_r, zc_in, iI_add, iI_sub, iI_mul, iI_neg, iI_lt, iI_le, iI_eq, zwr_zwr, zwa_zwa, zwr_s, zwr_o, zwr_O, zwr_k, zwa_s, zwa_S, zwa_o, zwa_O, upd_s, upd_o, if_true, if_false, if_pos, if_neg, iI_natN, iI_nat, Int.toNat_natCast, c_isRow1, c_isRow0, c_isCard1, c_isCard0, r_within1, r_within0, r_isRow1, r_isRow0, r_isCard1, r_isCard0, c_isAxis1, c_isAxis0, c_isShear1, c_isShear0, r_isAxis1, r_isAxis0, r_isShear1, r_isShear0, zc_cp, li_0, li_1, li_2, li_3, li_4, li_5, li_6, li_7, li_8, li_9, li_10, li_11, li_12, li_15, li_16, li_18, li_22, li_23, li_24, li_28, li_31, li_32, li_33, li_40, li_52, li_53, li_63, li_64, li_85, li_86, li_96, li_99, li_100, li_127, li_128, li_200, li_201, li_384, li_768, li_1023, li_5376, li_6144, fX7_baseline, e2, n2]); try rfl)
    · have hF' := hF z
      have f1 := (t1.2.2 z).1
      have g1 := (t2.2 z).1
      have c1 := c_height z hL hpt t1
      have c2 := r_levelOf z (by omega) hpt t2
      rcases (show v = 0 ∨ v = 1 ∨ v = 2 by omega) with rfl | rfl | rfl
      · refine ⟨iI F, M1, M2, ?_, ?_, hR2⟩
        · ((simp (disch := omega) only [zn_eq, zj_eq, zb1_eq, zb2_eq, zb3_eq, zbr_l, zbr_r, zc_in, iI_add, iI_sub, iI_mul, iI_neg, iI_lt, iI_le, iI_eq, zwr_zwr, zwa_zwa, zwr_s, zwr_o, zwr_O, zwr_k, zwa_s, zwa_S, zwa_o, zwa_O, upd_s, upd_o, if_true, if_false, if_pos, if_neg, iI_natN, iI_nat, Int.toNat_natCast, c_isRow1, c_isRow0, c_isCard1, c_isCard0, r_within1, r_within0, r_isRow1, r_isRow0, r_isCard1, r_isCard0, c_isAxis1, c_isAxis0, c_isShear1, c_isShear0, r_isAxis1, r_isAxis0, r_isShear1, r_isShear0, zc_cp, li_0, li_1, li_2, li_3, li_4, li_5, li_6, li_7, li_8, li_9, li_10, li_11, li_12, li_15, li_16, li_18, li_22, li_23, li_24, li_28, li_31, li_32, li_33, li_40, li_52, li_53, li_63, li_64, li_85, li_86, li_96, li_99, li_100, li_127, li_128, li_200, li_201, li_384, li_768, li_1023, li_5376, li_6144, fX6_baseline, e1, fX0_length, n1, fX0_first, f1]); try rfl)
        · ((simp (disch := omega) only [zn_eq, zj_eq, zb1_eq, zb2_eq, zb3_eq, zbr_l, zbr_r, zc_in, iI_add, iI_sub, iI_mul, iI_neg, iI_lt, iI_le, iI_eq, zwr_zwr, zwa_zwa, zwr_s, zwr_o, zwr_O, zwr_k, zwa_s, zwa_S, zwa_o, zwa_O, upd_s, upd_o, if_true, if_false, if_pos, if_neg, iI_natN, iI_nat, Int.toNat_natCast, c_isRow1, c_isRow0, c_isCard1, c_isCard0, r_within1, r_within0, r_isRow1, r_isRow0, r_isCard1, r_isCard0, c_isAxis1, c_isAxis0, c_isShear1, c_isShear0, r_isAxis1, r_isAxis0, r_isShear1, r_isShear0, zc_cp, li_0, li_1, li_2, li_3, li_4, li_5, li_6, li_7, li_8, li_9, li_10, li_11, li_12, li_15, li_16, li_18, li_22, li_23, li_24, li_28, li_31, li_32, li_33, li_40, li_52, li_53, li_63, li_64, li_85, li_86, li_96, li_99, li_100, li_127, li_128, li_200, li_201, li_384, li_768, li_1023, li_5376, li_6144, fX7_baseline, e2, n2, g1]); try rfl)
      · refine ⟨iI L, M1, M2, ?_, ?_, hR2⟩
        · ((simp (disch := omega) only [zn_eq, zj_eq, zb1_eq, zb2_eq, zb3_eq, zbr_l, zbr_r, zc_in, iI_add, iI_sub, iI_mul, iI_neg, iI_lt, iI_le, iI_eq, zwr_zwr, zwa_zwa, zwr_s, zwr_o, zwr_O, zwr_k, zwa_s, zwa_S, zwa_o, zwa_O, upd_s, upd_o, if_true, if_false, if_pos, if_neg, iI_natN, iI_nat, Int.toNat_natCast, c_isRow1, c_isRow0, c_isCard1, c_isCard0, r_within1, r_within0, r_isRow1, r_isRow0, r_isCard1, r_isCard0, c_isAxis1, c_isAxis0, c_isShear1, c_isShear0, r_isAxis1, r_isAxis0, r_isShear1, r_isShear0, zc_cp, li_0, li_1, li_2, li_3, li_4, li_5, li_6, li_7, li_8, li_9, li_10, li_11, li_12, li_15, li_16, li_18, li_22, li_23, li_24, li_28, li_31, li_32, li_33, li_40, li_52, li_53, li_63, li_64, li_85, li_86, li_96, li_99, li_100, li_127, li_128, li_200, li_201, li_384, li_768, li_1023, li_5376, li_6144, fX6_baseline, e1, fX0_length, n1]); try rfl)
        · ((simp (disch := omega) only [zn_eq, zj_eq, zb1_eq, zb2_eq, zb3_eq, zbr_l, zbr_r, zc_in, iI_add, iI_sub, iI_mul, iI_neg, iI_lt, iI_le, iI_eq, zwr_zwr, zwa_zwa, zwr_s, zwr_o, zwr_O, zwr_k, zwa_s, zwa_S, zwa_o, zwa_O, upd_s, upd_o, if_true, if_false, if_pos, if_neg, iI_natN, iI_nat, Int.toNat_natCast, c_isRow1, c_isRow0, c_isCard1, c_isCard0, r_within1, r_within0, r_isRow1, r_isRow0, r_isCard1, r_isCard0, c_isAxis1, c_isAxis0, c_isShear1, c_isShear0, r_isAxis1, r_isAxis0, r_isShear1, r_isShear0, zc_cp, li_0, li_1, li_2, li_3, li_4, li_5, li_6, li_7, li_8, li_9, li_10, li_11, li_12, li_15, li_16, li_18, li_22, li_23, li_24, li_28, li_31, li_32, li_33, li_40, li_52, li_53, li_63, li_64, li_85, li_86, li_96, li_99, li_100, li_127, li_128, li_200, li_201, li_384, li_768, li_1023, li_5376, li_6144, fX7_baseline, e2, n2]); try rfl)
      · refine ⟨iI (hgt pt L), M1, M2, ?_, ?_, hR2⟩
        · ((simp (disch := omega) only [zn_eq, zj_eq, zb1_eq, zb2_eq, zb3_eq, zbr_l, zbr_r, zc_in, iI_add, iI_sub, iI_mul, iI_neg, iI_lt, iI_le, iI_eq, zwr_zwr, zwa_zwa, zwr_s, zwr_o, zwr_O, zwr_k, zwa_s, zwa_S, zwa_o, zwa_O, upd_s, upd_o, if_true, if_false, if_pos, if_neg, iI_natN, iI_nat, Int.toNat_natCast, c_isRow1, c_isRow0, c_isCard1, c_isCard0, r_within1, r_within0, r_isRow1, r_isRow0, r_isCard1, r_isCard0, c_isAxis1, c_isAxis0, c_isShear1, c_isShear0, r_isAxis1, r_isAxis0, r_isShear1, r_isShear0, zc_cp, li_0, li_1, li_2, li_3, li_4, li_5, li_6, li_7, li_8, li_9, li_10, li_11, li_12, li_15, li_16, li_18, li_22, li_23, li_24, li_28, li_31, li_32, li_33, li_40, li_52, li_53, li_63, li_64, li_85, li_86, li_96, li_99, li_100, li_127, li_128, li_200, li_201, li_384, li_768, li_1023, li_5376, li_6144, fX6_baseline, e1, fX0_length, n1, c1]); try rfl)
        · ((simp (disch := omega) only [zn_eq, zj_eq, zb1_eq, zb2_eq, zb3_eq, zbr_l, zbr_r, zc_in, iI_add, iI_sub, iI_mul, iI_neg, iI_lt, iI_le, iI_eq, zwr_zwr, zwa_zwa, zwr_s, zwr_o, zwr_O, zwr_k, zwa_s, zwa_S, zwa_o, zwa_O, upd_s, upd_o, if_true, if_false, if_pos, if_neg, iI_natN, iI_nat, Int.toNat_natCast, c_isRow1, c_isRow0, c_isCard1, c_isCard0, r_within1, r_within0, r_isRow1, r_isRow0, r_isCard1, r_isCard0, c_isAxis1, c_isAxis0, c_isShear1, c_isShear0, r_isAxis1, r_isAxis0, r_isShear1, r_isShear0, zc_cp, li_0, li_1, li_2, li_3, li_4, li_5, li_6, li_7, li_8, li_9, li_10, li_11, li_12, li_15, li_16, li_18, li_22, li_23, li_24, li_28, li_31, li_32, li_33, li_40, li_52, li_53, li_63, li_64, li_85, li_86, li_96, li_99, li_100, li_127, li_128, li_200, li_201, li_384, li_768, li_1023, li_5376, li_6144, fX7_baseline, e2, n2, c2]); try rfl)
  · refine ⟨iI (-2), M, M, ?_, ?_, hR⟩
    · rcases (show v < 0 ∨ 2 < v by omega) with g | g
      · ((simp (disch := omega) only [zn_eq, zj_eq, zb1_eq, zb2_eq, zb3_eq, zbr_l, zbr_r, zc_in, iI_add, iI_sub, iI_mul, iI_neg, iI_lt, iI_le, iI_eq, zwr_zwr, zwa_zwa, zwr_s, zwr_o, zwr_O, zwr_k, zwa_s, zwa_S, zwa_o, zwa_O, upd_s, upd_o, if_true, if_false, if_pos, if_neg, iI_natN, iI_nat, Int.toNat_natCast, c_isRow1, c_isRow0, c_isCard1, c_isCard0, r_within1, r_within0, r_isRow1, r_isRow0, r_isCard1, r_isCard0, c_isAxis1, c_isAxis0, c_isShear1, c_isShear0, r_isAxis1, r_isAxis0, r_isShear1, r_isShear0, zc_cp, li_0, li_1, li_2, li_3, li_4, li_5, li_6, li_7, li_8, li_9, li_10, li_11, li_12, li_15, li_16, li_18, li_22, li_23, li_24, li_28, li_31, li_32, li_33, li_40, li_52, li_53, li_63, li_64, li_85, li_86, li_96, li_99, li_100, li_127, li_128, li_200, li_201, li_384, li_768, li_1023, li_5376, li_6144, fX6_baseline]); try rfl)
      · ((simp (disch := omega) only [zn_eq, zj_eq, zb1_eq, zb2_eq, zb3_eq, zbr_l, zbr_r, zc_in, iI_add, iI_sub, iI_mul, iI_neg, iI_lt, iI_le, iI_eq, zwr_zwr, zwa_zwa, zwr_s, zwr_o, zwr_O, zwr_k, zwa_s, zwa_S, zwa_o, zwa_O, upd_s, upd_o, if_true, if_false, if_pos, if_neg, iI_natN, iI_nat, Int.toNat_natCast, c_isRow1, c_isRow0, c_isCard1, c_isCard0, r_within1, r_within0, r_isRow1, r_isRow0, r_isCard1, r_isCard0, c_isAxis1, c_isAxis0, c_isShear1, c_isShear0, r_isAxis1, r_isAxis0, r_isShear1, r_isShear0, zc_cp, li_0, li_1, li_2, li_3, li_4, li_5, li_6, li_7, li_8, li_9, li_10, li_11, li_12, li_15, li_16, li_18, li_22, li_23, li_24, li_28, li_31, li_32, li_33, li_40, li_52, li_53, li_63, li_64, li_85, li_86, li_96, li_99, li_100, li_127, li_128, li_200, li_201, li_384, li_768, li_1023, li_5376, li_6144, fX6_baseline]); try rfl)
    · ((simp (disch := omega) only [zn_eq, zj_eq, zb1_eq, zb2_eq, zb3_eq, zbr_l, zbr_r, zc_in, iI_add, iI_sub, iI_mul, iI_neg, iI_lt, iI_le, iI_eq, zwr_zwr, zwa_zwa, zwr_s, zwr_o, zwr_O, zwr_k, zwa_s, zwa_S, zwa_o, zwa_O, upd_s, upd_o, if_true, if_false, if_pos, if_neg, iI_natN, iI_nat, Int.toNat_natCast, c_isRow1, c_isRow0, c_isCard1, c_isCard0, r_within1, r_within0, r_isRow1, r_isRow0, r_isCard1, r_isCard0, c_isAxis1, c_isAxis0, c_isShear1, c_isShear0, r_isAxis1, r_isAxis0, r_isShear1, r_isShear0, zc_cp, li_0, li_1, li_2, li_3, li_4, li_5, li_6, li_7, li_8, li_9, li_10, li_11, li_12, li_15, li_16, li_18, li_22, li_23, li_24, li_28, li_31, li_32, li_33, li_40, li_52, li_53, li_63, li_64, li_85, li_86, li_96, li_99, li_100, li_127, li_128, li_200, li_201, li_384, li_768, li_1023, li_5376, li_6144, fX7_baseline]); try rfl)
