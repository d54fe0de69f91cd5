/-! best, found, tried -/
theorem r_zero {M : zMem} (F : Int → Int32) : rTr (zwr M 60 7 (iI 0)) F sq0 ∧ rOt M (zwr M 60 7 (iI 0)) := by
  refine ⟨⟨by rw [zwr_s]; rfl, fun i hi => absurd hi (Nat.not_lt_zero i)⟩, ?_⟩
  intro c k h1 h2 h3 h4
  rcases Classical.em (c = 60) with e | e
  · subst e; rw [zwr_k (by omega)]
  · rw [zwr_o e]
theorem r_tryAll {M : zMem} {w a : Nat} {P : Nat → Nat → Bool} (hP : rPg M w P) (ha : a < 2) : ∃ x M', zlp (zu2 (fX7_best_L18 (iI a))) zfu (iI (-16), zwr M 60 7 (iI 0)) = some (x, M') ∧ rTr M' (shF' P a w) (sqA 33) ∧ rOt M M' := by
  obtain ⟨t1, o1⟩ := r_zero (M := M) (shF' P a w)
  obtain ⟨b, hb, x, M', rfl, t2, o2⟩ : ∃ b, zlp (zu2 (fX7_best_L18 (iI a))) zfu (iI (-16), zwr M 60 7 (iI 0)) = some b ∧ ∃ x M', b = (x, M') ∧ rTr M' (shF' P a w) (sqA 33) ∧ rOt M M' := by
    refine zlp_inv (I := fun j p => p.1 = iI ((j : Int) - 16) ∧ rTr p.2 (shF' P a w) (sqA j) ∧ rOt M p.2) _ 33 (by omega) ⟨rfl, t1, o1⟩ ?_ ?_
    · rintro j ⟨x, M2⟩ hj ⟨e, t, o⟩
      dsimp only at e t o
      obtain ⟨M3, e3, t3, o3⟩ := r_att (rPg_ag hP (rOt_ag o)) ha (sqA_ok j) t (by omega) (by omega) (s := (j : Int) - 16)
      refine Or.inl ⟨(iI (((j + 1 : Nat) : Int) - 16), M3), ?_, rfl, t3, rOt_tr o o3⟩
      show fX7_best_L18 (iI a) x M2 = _
      unfold fX7_best_L18
      rw [e, li_16, flt_n (by omega) (by omega) (by omega), e3, zb1_eq, li_1, iI_add, show ((j + 1 : Nat) : Int) - 16 = (j : Int) - 16 + 1 by omega]
    · rintro ⟨x, M2⟩ ⟨e, t, o⟩
      dsimp only at e t o
      refine ⟨(x, M2), ?_, x, M2, rfl, t, o⟩
      show fX7_best_L18 (iI a) x M2 = _
      unfold fX7_best_L18
      rw [e, li_16, flt_p (by omega) (by omega) (by omega)]
  exact ⟨x, M', hb, t2, o2⟩
theorem r_search {M : zMem} {w a : Nat} {P : Nat → Nat → Bool} (hP : rPg M w P) (ha : a < 2) : ∃ M', fX7_search (iI a) M = some M' ∧ rTr M' (shF' P a w) (srT (shF' P a w) 3) ∧ rOt M M' := by
  obtain ⟨t1, o1⟩ := r_zero (M := M) (shF' P a w)
  obtain ⟨b, hb, x, M', rfl, t2, o2⟩ : ∃ b, zlp (zu2 (fX7_search_L8 (iI a))) zfu (iI (-16), zwr M 60 7 (iI 0)) = some b ∧ ∃ x M', b = (x, M') ∧ rTr M' (shF' P a w) (sq5 5) ∧ rOt M M' := by
    refine zlp_inv (I := fun j p => p.1 = iI (8 * (j : Int) - 16) ∧ rTr p.2 (shF' P a w) (sq5 j) ∧ rOt M p.2) _ 5 (by omega) ⟨rfl, t1, o1⟩ ?_ ?_
    · rintro j ⟨x, M2⟩ hj ⟨e, t, o⟩
      dsimp only at e t o
      obtain ⟨M3, e3, t3, o3⟩ := r_att (rPg_ag hP (rOt_ag o)) ha (sq5_ok j) t (by omega) (by omega) (s := 8 * (j : Int) - 16)
      refine Or.inl ⟨(iI (8 * ((j + 1 : Nat) : Int) - 16), M3), ?_, rfl, t3, rOt_tr o o3⟩
      show fX7_search_L8 (iI a) x M2 = _
      unfold fX7_search_L8
      rw [e, li_16, flt_n (by omega) (by omega) (by omega), e3, zb1_eq, li_8, iI_add, show 8 * ((j + 1 : Nat) : Int) - 16 = 8 * (j : Int) - 16 + 8 by omega]
    · rintro ⟨x, M2⟩ ⟨e, t, o⟩
      dsimp only at e t o
      refine ⟨(x, M2), ?_, x, M2, rfl, t, o⟩
      show fX7_search_L8 (iI a) x M2 = _
      unfold fX7_search_L8
      rw [e, li_16, flt_p (by omega) (by omega) (by omega)]
  obtain ⟨b, hb', x', M'', rfl, t3, o3⟩ : ∃ b, zlp (zu2 (fX7_search_L28 (iI a))) zfu (iI 4, M') = some b ∧ ∃ x M'', b = (x, M'') ∧ rTr M'' (shF' P a w) (srT (shF' P a w) 3) ∧ rOt M M'' := by
    refine zlp_inv (I := fun j p => p.1 = iI (dd j) ∧ rTr p.2 (shF' P a w) (srT (shF' P a w) j) ∧ rOt M p.2) _ 3 (by omega) ⟨rfl, t2, o2⟩ ?_ ?_
    · rintro j ⟨x, M2⟩ hj ⟨e, t, o⟩
      dsimp only at e t o
      have hd : 1 ≤ dd j ∧ dd j ≤ 4 ∧ iI (dd j) / 2 = iI (dd (j + 1)) := by
        rcases (show j = 0 ∨ j = 1 ∨ j = 2 by omega) with rfl | rfl | rfl <;> decide
      have hbi := bst_in (F := shF' P a w) (srT_ok (shF' P a w) j) (srT_pos _ j)
      obtain ⟨M3, e3, t3, o3⟩ := r_att (rPg_ag hP (rOt_ag o)) ha (srT_ok (shF' P a w) j) t (by omega) (by omega) (s := bst (shF' P a w) (srT (shF' P a w) j) - dd j)
      obtain ⟨M4, e4, t4, o4⟩ := r_att (rPg_ag hP (rOt_ag (rOt_tr o o3))) ha (att_ok (srT_ok (shF' P a w) j) _) t3 (by omega) (by omega) (s := bst (shF' P a w) (srT (shF' P a w) j) + dd j)
      refine Or.inl ⟨(iI (dd (j + 1)), M4), ?_, rfl, t4, rOt_tr o (rOt_tr o3 o4)⟩
      show fX7_search_L28 (iI a) x M2 = _
      unfold fX7_search_L28
      rw [e, li_0, fle_n (by omega) (by omega) (by omega), r_best (srT_ok (shF' P a w) j) t (srT_pos _ j), zb1_eq, iI_sub, e3, zb1_eq, iI_add, e4, zb1_eq, zn_eq, hd.2.2]
    · rintro ⟨x, M2⟩ ⟨e, t, o⟩
      dsimp only at e t o
      refine ⟨(x, M2), ?_, x, M2, rfl, t, o⟩
      show fX7_search_L28 (iI a) x M2 = _
      unfold fX7_search_L28
      rw [e]; rfl
  refine ⟨M'', ?_, t3, o3⟩
  unfold fX7_search
  rw [zn_eq, show (-16 : Int32) = iI (-16) from rfl, li_0, hb, zb1_eq]
  show zb1 (zlp (zu2 (fX7_search_L28 (iI a))) zfu (iI 4, M')) _ = _
  rw [hb', zb1_eq]
theorem st_best {M : zMem} (h : Rl M) (p : Int32) : ∃ o M1 M2, fX6_best p M = some (o, M1) ∧ fX7_best p M1 = some (o, M2) ∧ Rl M2 := by
  obtain ⟨a, a1, a2, rfl⟩ := iI_ex p
  have hR := h
  obtain ⟨⟨w, P, h1, h2, -⟩, -⟩ := h
  by_cases ha : 0 ≤ a ∧ a < 2
  · obtain ⟨a, rfl⟩ : ∃ n : Nat, a = n := ⟨a.toNat, by omega⟩
    obtain ⟨M1, e1, t1, o1⟩ := c_tryAll h1 (by omega) (a := a)
    obtain ⟨x, M2, e2, t2, o2⟩ := r_tryAll (rPg_ag h2 (cOt_ag o1)) (by omega) (a := a)
    refine ⟨iI (bst (shF' P a w) (sqA 33) + 100), M1, M2, ?_, ?_, Rl_ag (Rl_ag hR (cOt_ag o1)) (rOt_ag o2)⟩
    · unfold fX6_best
      rw [c_isAxis1 ha.1 ha.2, zb1_eq, if_neg (by decide), e1, zb1_eq]
      show some (M1 22 4 + 100, M1) = _
      rw [(t1.2.2.2.2 (sqA_pos 32)).1, li_100, iI_add]
    · unfold fX7_best
      rw [r_isAxis1 ha.1 ha.2, zb1_eq, if_neg (by decide), zn_eq, li_0, show (-16 : Int32) = iI (-16) from rfl, e2, zb1_eq]
      show zb1 (fX7_bestTried M2) _ = _
      rw [r_best (sqA_ok 33) t2 (sqA_pos 32), zb1_eq, li_100, iI_add]
  · exact ⟨iI (-2), M, M, by ((simp (disch := omega) only [zn_eq, zj_eq, zb1_eq, zb2_eq, zb3_eq, zbr_l, zbr_r, zc_in, iI_add, iI_sub, iI_mul, iI_neg, iI_lt, iI_le, iI_eq, zwr_zwr, zwa_zwa, zwr_s, zwr_o, zwr_O, zwr_k, zwa_s, zwa_S, zwa_o, zwa_O, upd_s, upd_o, if_true, if_false, if_pos, if_neg, iI_natN, iI_nat, Int.toNat_natCast, c_isRow1, c_isRow0, c_isCard1, c_isCard0, r_within1, r_within0, r_isRow1, r_isRow0, r_isCard1, r_isCard0, c_isAxis1, c_isAxis0, c_isShear1, c_isShear0, r_isAxis1, r_isAxis0, r_isShear1, r_isShear0, zc_cp, li_0, li_1, li_2, li_3, li_4, li_5, li_6, li_7, li_8, li_9, li_10, li_11, li_12, li_15, li_16, li_18, li_22, li_23, li_24, li_28, li_31, li_32, li_33, li_40, li_52, li_53, li_63, li_64, li_85, li_86, li_96, li_99, li_100, li_127, li_128, li_200, li_201, li_384, li_768, li_1023, li_5376, li_6144, fX6_best]); try rfl), by ((simp (disch := omega) only [zn_eq, zj_eq, zb1_eq, zb2_eq, zb3_eq, zbr_l, zbr_r, zc_in, iI_add, iI_sub, iI_mul, iI_neg, iI_lt, iI_le, iI_eq, zwr_zwr, zwa_zwa, zwr_s, zwr_o, zwr_O, zwr_k, zwa_s, zwa_S, zwa_o, zwa_O, upd_s, upd_o, if_true, if_false, if_pos, if_neg, iI_natN, iI_nat, Int.toNat_natCast, c_isRow1, c_isRow0, c_isCard1, c_isCard0, r_within1, r_within0, r_isRow1, r_isRow0, r_isCard1, r_isCard0, c_isAxis1, c_isAxis0, c_isShear1, c_isShear0, r_isAxis1, r_isAxis0, r_isShear1, r_isShear0, zc_cp, li_0, li_1, li_2, li_3, li_4, li_5, li_6, li_7, li_8, li_9, li_10, li_11, li_12, li_15, li_16, li_18, li_22, li_23, li_24, li_28, li_31, li_32, li_33, li_40, li_52, li_53, li_63, li_64, li_85, li_86, li_96, li_99, li_100, li_127, li_128, li_200, li_201, li_384, li_768, li_1023, li_5376, li_6144, fX7_best]); try rfl), hR⟩
theorem st_found {M : zMem} (h : Rl M) (p : Int32) : ∃ o M1 M2, fX6_found p M = some (o, M1) ∧ fX7_found p M1 = some (o, M2) ∧ Rl M2 := by
  obtain ⟨a, a1, a2, rfl⟩ := iI_ex p
  have hR := h
  obtain ⟨⟨w, P, h1, h2, -⟩, -⟩ := h
  by_cases ha : 0 ≤ a ∧ a < 2
  · obtain ⟨a, rfl⟩ : ∃ n : Nat, a = n := ⟨a.toNat, by omega⟩
    obtain ⟨M1, e1, t1, o1⟩ := c_search h1 (by omega) (a := a)
    obtain ⟨M2, e2, t2, o2⟩ := r_search (rPg_ag h2 (cOt_ag o1)) (by omega) (a := a)
    refine ⟨iI (bst (shF' P a w) (srT (shF' P a w) 3) + 100), M1, M2, ?_, ?_, Rl_ag (Rl_ag hR (cOt_ag o1)) (rOt_ag o2)⟩
    · unfold fX6_found
      rw [c_isAxis1 ha.1 ha.2, zb1_eq, if_neg (by decide), e1, zb1_eq]
      show some (M1 22 4 + 100, M1) = _
      rw [(t1.2.2.2.2 (srT_pos _ 3)).1, li_100, iI_add]
    · unfold fX7_found
      rw [r_isAxis1 ha.1 ha.2, zb1_eq, if_neg (by decide), e2, zb1_eq, r_best (srT_ok _ 3) t2 (srT_pos _ 3), zb1_eq, li_100, iI_add]
  · exact ⟨iI (-2), M, M, by ((simp (disch := omega) only [zn_eq, zj_eq, zb1_eq, zb2_eq, zb3_eq, zbr_l, zbr_r, zc_in, iI_add, iI_sub, iI_mul, iI_neg, iI_lt, iI_le, iI_eq, zwr_zwr, zwa_zwa, zwr_s, zwr_o, zwr_O, zwr_k, zwa_s, zwa_S, zwa_o, zwa_O, upd_s, upd_o, if_true, if_false, if_pos, if_neg, iI_natN, iI_nat, Int.toNat_natCast, c_isRow1, c_isRow0, c_isCard1, c_isCard0, r_within1, r_within0, r_isRow1, r_isRow0, r_isCard1, r_isCard0, c_isAxis1, c_isAxis0, c_isShear1, c_isShear0, r_isAxis1, r_isAxis0, r_isShear1, r_isShear0, zc_cp, li_0, li_1, li_2, li_3, li_4, li_5, li_6, li_7, li_8, li_9, li_10, li_11, li_12, li_15, li_16, li_18, li_22, li_23, li_24, li_28, li_31, li_32, li_33, li_40, li_52, li_53, li_63, li_64, li_85, li_86, li_96, li_99, li_100, li_127, li_128, li_200, li_201, li_384, li_768, li_1023, li_5376, li_6144, fX6_found]); try rfl), by ((simp (disch := omega) only [zn_eq, zj_eq, zb1_eq, zb2_eq, zb3_eq, zbr_l, zbr_r, zc_in, iI_add, iI_sub, iI_mul, iI_neg, iI_lt, iI_le, iI_eq, zwr_zwr, zwa_zwa, zwr_s, zwr_o, zwr_O, zwr_k, zwa_s, zwa_S, zwa_o, zwa_O, upd_s, upd_o, if_true, if_false, if_pos, if_neg, iI_natN, iI_nat, Int.toNat_natCast, c_isRow1, c_isRow0, c_isCard1, c_isCard0, r_within1, r_within0, r_isRow1, r_isRow0, r_isCard1, r_isCard0, c_isAxis1, c_isAxis0, c_isShear1, c_isShear0, r_isAxis1, r_isAxis0, r_isShear1, r_isShear0, zc_cp, li_0, li_1, li_2, li_3, li_4, li_5, li_6, li_7, li_8, li_9, li_10, li_11, li_12, li_15, li_16, li_18, li_22, li_23, li_24, li_28, li_31, li_32, li_33, li_40, li_52, li_53, li_63, li_64, li_85, li_86, li_96, li_99, li_100, li_127, li_128, li_200, li_201, li_384, li_768, li_1023, li_5376, li_6144, fX7_found]); try rfl), hR⟩
theorem st_tried {M : zMem} (h : Rl M) (p q : Int32) : ∃ o M1 M2, fX6_tried p q M = some (o, M1) ∧ fX7_tried p q M1 = some (o, M2) ∧ Rl M2 := by
  obtain ⟨a, a1, a2, rfl⟩ := iI_ex p
  obtain ⟨k, k1, k2, rfl⟩ := iI_ex q
  have hR := h
  obtain ⟨⟨w, P, h1, h2, -⟩, -⟩ := h
  by_cases ha : 0 ≤ a ∧ a < 2
  · by_cases hk : 0 ≤ k ∧ k ≤ 32
    · obtain ⟨a, rfl⟩ : ∃ n : Nat, a = n := ⟨a.toNat, by omega⟩
      obtain ⟨k, rfl⟩ : ∃ n : Nat, k = n := ⟨k.toNat, by omega⟩
      obtain ⟨M1, e1, t1, o1⟩ := c_search h1 (by omega) (a := a)
      obtain ⟨M2, e2, t2, o2⟩ := r_search (rPg_ag h2 (cOt_ag o1)) (by omega) (a := a)
      have hT := srT_ok (shF' P a w) 3
      obtain ⟨T, eT⟩ : ∃ T, T = srT (shF' P a w) 3 := ⟨_, rfl⟩
      rw [← eT] at t1 t2 hT
      have hl : T.1 ≤ 33 := hT.1
      have c1 := t1.1
      have c2 := t1.2.1
      have d1 := t2.1
      have d2 := t2.2
      by_cases g : T.1 ≤ k
      · refine ⟨iI (-9), M1, M2, ?_, ?_, Rl_ag (Rl_ag hR (cOt_ag o1)) (rOt_ag o2)⟩
        · unfold fX6_tried
          rw [c_isAxis1 ha.1 ha.2, zb1_eq, if_neg (by decide), li_0, flt_n (by omega) (by omega) (by omega), li_32, fle_p (by omega) (by omega) (by omega), e1, zb1_eq]
          show zj _ (fun k8 => if M1 22 3 ≤ iI k then _ else _) = _
          rw [c1, zj_eq, fle_p (by omega) (by omega) (by omega)]; rfl
        · unfold fX7_tried
          rw [r_isAxis1 ha.1 ha.2, zb1_eq, if_neg (by decide), li_0, li_32, r_within1 hk.1 hk.2 (by omega) (by omega), zb1_eq, if_neg (by decide), e2, zb1_eq, zj_eq, d1, fle_p (by omega) (by omega) (by omega)]; rfl
      · have e3 := hT.2.1 k (by omega)
        refine ⟨iI (T.2 k + 100), M1, M2, ?_, ?_, Rl_ag (Rl_ag hR (cOt_ag o1)) (rOt_ag o2)⟩
        · unfold fX6_tried
          rw [c_isAxis1 ha.1 ha.2, zb1_eq, if_neg (by decide), li_0, flt_n (by omega) (by omega) (by omega), li_32, fle_p (by omega) (by omega) (by omega), e1, zb1_eq]
          show zj _ (fun k8 => if M1 22 3 ≤ iI k then _ else _) = _
          unfold fX3_attempt
          rw [c1, zj_eq, fle_n (by omega) (by omega) (by omega), zj_eq, li_0, flt_n (by omega) (by omega) (by omega), fle_n (by omega) (by omega) (by omega), zc_in (by omega) (by omega) (by omega), iI_natN (by omega), c2 k (by omega), zb1_eq, li_100, iI_add]
        · unfold fX7_tried
          rw [r_isAxis1 ha.1 ha.2, zb1_eq, if_neg (by decide), li_0, li_32, r_within1 hk.1 hk.2 (by omega) (by omega), zb1_eq, if_neg (by decide), e2, zb1_eq, zj_eq, d1, fle_n (by omega) (by omega) (by omega), zc_in (by omega) (by omega) (by omega), iI_natN (by omega), (d2 k (by omega)).1, li_100, iI_add]
    · refine ⟨iI (-2), M, M, ?_, ?_, hR⟩
      · rcases (show k < 0 ∨ 32 < k by omega) with g | g
        · ((simp (disch := omega) only [zn_eq, zj_eq, zb1_eq, zb2_eq, zb3_eq, zbr_l, zbr_r, zc_in, iI_add, iI_sub, iI_mul, iI_neg, iI_lt, iI_le, iI_eq, zwr_zwr, zwa_zwa, zwr_s, zwr_o, zwr_O, zwr_k, zwa_s, zwa_S, zwa_o, zwa_O, upd_s, upd_o, if_true, if_false, if_pos, if_neg, iI_natN, iI_nat, Int.toNat_natCast, c_isRow1, c_isRow0, c_isCard1, c_isCard0, r_within1, r_within0, r_isRow1, r_isRow0, r_isCard1, r_isCard0, c_isAxis1, c_isAxis0, c_isShear1, c_isShear0, r_isAxis1, r_isAxis0, r_isShear1, r_isShear0, zc_cp, li_0, li_1, li_2, li_3, li_4, li_5, li_6, li_7, li_8, li_9, li_10, li_11, li_12, li_15, li_16, li_18, li_22, li_23, li_24, li_28, li_31, li_32, li_33, li_40, li_52, li_53, li_63, li_64, li_85, li_86, li_96, li_99, li_100, li_127, li_128, li_200, li_201, li_384, li_768, li_1023, li_5376, li_6144, fX6_tried]); try rfl)
        · ((simp (disch := omega) only [zn_eq, zj_eq, zb1_eq, zb2_eq, zb3_eq, zbr_l, zbr_r, zc_in, iI_add, iI_sub, iI_mul, iI_neg, iI_lt, iI_le, iI_eq, zwr_zwr, zwa_zwa, zwr_s, zwr_o, zwr_O, zwr_k, zwa_s, zwa_S, zwa_o, zwa_O, upd_s, upd_o, if_true, if_false, if_pos, if_neg, iI_natN, iI_nat, Int.toNat_natCast, c_isRow1, c_isRow0, c_isCard1, c_isCard0, r_within1, r_within0, r_isRow1, r_isRow0, r_isCard1, r_isCard0, c_isAxis1, c_isAxis0, c_isShear1, c_isShear0, r_isAxis1, r_isAxis0, r_isShear1, r_isShear0, zc_cp, li_0, li_1, li_2, li_3, li_4, li_5, li_6, li_7, li_8, li_9, li_10, li_11, li_12, li_15, li_16, li_18, li_22, li_23, li_24, li_28, li_31, li_32, li_33, li_40, li_52, li_53, li_63, li_64, li_85, li_86, li_96, li_99, li_100, li_127, li_128, li_200, li_201, li_384, li_768, li_1023, li_5376, li_6144, fX6_tried]); try rfl)
      · ((simp (disch := omega) only [zn_eq, zj_eq, zb1_eq, zb2_eq, zb3_eq, zbr_l, zbr_r, zc_in, iI_add, iI_sub, iI_mul, iI_neg, iI_lt, iI_le, iI_eq, zwr_zwr, zwa_zwa, zwr_s, zwr_o, zwr_O, zwr_k, zwa_s, zwa_S, zwa_o, zwa_O, upd_s, upd_o, if_true, if_false, if_pos, if_neg, iI_natN, iI_nat, Int.toNat_natCast, c_isRow1, c_isRow0, c_isCard1, c_isCard0, r_within1, r_within0, r_isRow1, r_isRow0, r_isCard1, r_isCard0, c_isAxis1, c_isAxis0, c_isShear1, c_isShear0, r_isAxis1, r_isAxis0, r_isShear1, r_isShear0, zc_cp, li_0, li_1, li_2, li_3, li_4, li_5, li_6, li_7, li_8, li_9, li_10, li_11, li_12, li_15, li_16, li_18, li_22, li_23, li_24, li_28, li_31, li_32, li_33, li_40, li_52, li_53, li_63, li_64, li_85, li_86, li_96, li_99, li_100, li_127, li_128, li_200, li_201, li_384, li_768, li_1023, li_5376, li_6144, fX7_tried]); try rfl)
  · exact ⟨iI (-2), M, M, by ((simp (disch := omega) only [zn_eq, zj_eq, zb1_eq, zb2_eq, zb3_eq, zbr_l, zbr_r, zc_in, iI_add, iI_sub, iI_mul, iI_neg, iI_lt, iI_le, iI_eq, zwr_zwr, zwa_zwa, zwr_s, zwr_o, zwr_O, zwr_k, zwa_s, zwa_S, zwa_o, zwa_O, upd_s, upd_o, if_true, if_false, if_pos, if_neg, iI_natN, iI_nat, Int.toNat_natCast, c_isRow1, c_isRow0, c_isCard1, c_isCard0, r_within1, r_within0, r_isRow1, r_isRow0, r_isCard1, r_isCard0, c_isAxis1, c_isAxis0, c_isShear1, c_isShear0, r_isAxis1, r_isAxis0, r_isShear1, r_isShear0, zc_cp, li_0, li_1, li_2, li_3, li_4, li_5, li_6, li_7, li_8, li_9, li_10, li_11, li_12, li_15, li_16, li_18, li_22, li_23, li_24, li_28, li_31, li_32, li_33, li_40, li_52, li_53, li_63, li_64, li_85, li_86, li_96, li_99, li_100, li_127, li_128, li_200, li_201, li_384, li_768, li_1023, li_5376, li_6144, fX6_tried]); try rfl), by ((simp (disch := omega) only [zn_eq, zj_eq, zb1_eq, zb2_eq, zb3_eq, zbr_l, zbr_r, zc_in, iI_add, iI_sub, iI_mul, iI_neg, iI_lt, iI_le, iI_eq, zwr_zwr, zwa_zwa, zwr_s, zwr_o, zwr_O, zwr_k, zwa_s, zwa_S, zwa_o, zwa_O, upd_s, upd_o, if_true, if_false, if_pos, if_neg, iI_natN, iI_nat, Int.toNat_natCast, c_isRow1, c_isRow0, c_isCard1, c_isCard0, r_within1, r_within0, r_isRow1, r_isRow0, r_isCard1, r_isCard0, c_isAxis1, c_isAxis0, c_isShear1, c_isShear0, r_isAxis1, r_isAxis0, r_isShear1, r_isShear0, zc_cp, li_0, li_1, li_2, li_3, li_4, li_5, li_6, li_7, li_8, li_9, li_10, li_11, li_12, li_15, li_16, li_18, li_22, li_23, li_24, li_28, li_31, li_32, li_33, li_40, li_52, li_53, li_63, li_64, li_85, li_86, li_96, li_99, li_100, li_127, li_128, li_200, li_201, li_384, li_768, li_1023, li_5376, li_6144, fX7_tried]); try rfl), hR⟩
