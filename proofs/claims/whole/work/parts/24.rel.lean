/-! the relation between the class's cells and the reference's -/
def relv (c k : Nat) : Bool := (c == 0 && k == 6) || (c == 1 && (k == 3 || k == 4 || k == 5)) || c == 2 || (decide (5 ≤ c) && decide (c ≤ 12)) || (decide (14 ≤ c) && decide (c ≤ 17) && (k == 1 || k == 2)) || (decide (18 ≤ c) && decide (c ≤ 21)) || (c == 60 && (k == 0 || k == 1 || k == 10)) || (decide (61 ≤ c) && decide (c ≤ 64)) || c == 68
def irr (e : Nat × Nat) : Bool := if e.2 = 99999 then !(e.1 == 0 || e.1 == 1 || e.1 == 2 || (decide (5 ≤ e.1) && decide (e.1 ≤ 12)) || (decide (14 ≤ e.1) && decide (e.1 ≤ 21)) || (decide (60 ≤ e.1) && decide (e.1 ≤ 64)) || e.1 == 68) else !(relv e.1 e.2)
def Ag (M M' : zMem) : Prop := ∀ c k, relv c k = true → M' c k = M c k
theorem Ag_fr {T : List (Nat × Nat)} {M M' : zMem} (h : T.all irr = true) (hF : Fr T M M') : Ag M M' := by
  intro c k hk
  apply hF c k
  cases ht : tin T c k with
  | false => rfl
  | true =>
    obtain ⟨e, he, h1⟩ := List.any_eq_true.mp ht
    have h2 := List.all_eq_true.mp h e he
    simp only [Bool.and_eq_true, beq_iff_eq, Bool.or_eq_true] at h1
    obtain ⟨rfl, h1⟩ := h1
    unfold irr at h2
    by_cases h3 : e.2 = 99999
    · rw [if_pos h3] at h2
      unfold relv at hk
      simp only [Bool.not_eq_true', Bool.or_eq_false_iff, beq_eq_false_iff_ne, Bool.and_eq_false_iff, decide_eq_false_iff_not, Bool.or_eq_true, Bool.and_eq_true, beq_iff_eq, decide_eq_true_eq] at h2 hk
      omega
    · rw [if_neg h3] at h2
      have : e.2 = k := h1.resolve_right h3
      rw [this, hk] at h2
      cases h2
theorem Ag_rf {M : zMem} : Ag M M := fun _ _ _ => rfl
theorem Ag_tr {M M' M'' : zMem} (h1 : Ag M M') (h2 : Ag M' M'') : Ag M M'' := fun c k h => (h2 c k h).trans (h1 c k h)
theorem cPg_ag {M M' : zMem} {w : Nat} {P : Nat → Nat → Bool} (h : cPg M w P) (ha : Ag M M') : cPg M' w P := by
  obtain ⟨h1, h2, h3, h4, h5⟩ := h
  refine ⟨h1, h2, by rw [ha 1 3 (by decide)]; exact h3, fun k hk r hr => ?_, h5⟩
  rw [ha 2 k (by simp [relv])]
  exact h4 k hk r hr
theorem rPg_ag {M M' : zMem} {w : Nat} {P : Nat → Nat → Bool} (h : rPg M w P) (ha : Ag M M') : rPg M' w P := by
  obtain ⟨h1, h2, h3, h4, h5⟩ := h
  refine ⟨h1, h2, by rw [ha 60 1 (by decide)]; exact h3, fun k hk r hr => ?_, h5⟩
  rw [ha 61 _ (by simp [relv])]
  exact h4 k hk r hr
/-- a page kept in the ring's row c of the class and from place o on of the reference -/
def kPg (M : zMem) (w c o : Nat) : Prop := ∃ Q : Nat → Nat → Bool, (∀ k, k < 24 → ∀ r, r < 32 → bt (M c k) r = Q k r) ∧ (∀ k, k < 24 → ∀ r, r < 32 → M 68 (o + 32 * k + r) = b2 (Q k r)) ∧ ∀ k r, Q k r = true → k < w ∧ r < 32
def mvs (M : zMem) (w : Nat) : Prop := ∃ n x : Nat, n ≤ 8 ∧ x < 8 ∧ M 1 4 = iI n ∧ M 60 10 = iI n ∧ M 1 5 = iI x ∧ ∀ i, i < n → kPg M w (5 + (x + 7 - i) % 8) (768 * (n - 1 - i))
def crd (M : zMem) (j : Nat) : Prop := ((M (14 + j) 1 = iI (-1) ∧ M (14 + j) 2 = iI 0 ∧ M 62 j = iI (-9)) ∨ ∃ s n : Nat, s ≤ 3 ∧ n ≤ 32 ∧ M (14 + j) 1 = iI s ∧ M (14 + j) 2 = iI n ∧ M 62 j = iI s ∧ M 63 j = iI n) ∧ ∀ i, i < 32 → M (18 + j) i = M 64 (32 * j + i)
def Rl (M : zMem) : Prop := (∃ w P, cPg M w P ∧ rPg M w P ∧ mvs M w) ∧ (∀ j, j < 4 → crd M j) ∧ M 0 6 = M 60 0
theorem mvs_ag {M M' : zMem} {w : Nat} (h : mvs M w) (ha : Ag M M') : mvs M' w := by
  obtain ⟨n, x, h1, h2, h3, h4, h5, h6⟩ := h
  refine ⟨n, x, h1, h2, by rw [ha 1 4 (by decide)]; exact h3, by rw [ha 60 10 (by decide)]; exact h4, by rw [ha 1 5 (by decide)]; exact h5, fun i hi => ?_⟩
  obtain ⟨Q, q1, q2, q3⟩ := h6 i hi
  refine ⟨Q, fun k hk r hr => ?_, fun k hk r hr => ?_, q3⟩
  · rw [ha _ k (by simp [relv]; omega)]
    exact q1 k hk r hr
  · rw [ha 68 _ (by simp [relv])]
    exact q2 k hk r hr
theorem crd_ag {M M' : zMem} {j : Nat} (hj : j < 4) (h : crd M j) (ha : Ag M M') : crd M' j := by
  unfold crd at h ⊢
  rw [ha (14 + j) 1 (by simp [relv]; omega), ha (14 + j) 2 (by simp [relv]; omega), ha 62 j (by simp [relv]), ha 63 j (by simp [relv])]
  refine ⟨h.1, fun i hi => ?_⟩
  rw [ha (18 + j) i (by simp [relv]; omega), ha 64 _ (by simp [relv])]
  exact h.2 i hi
theorem crd_ag' {M M' : zMem} {j : Nat} (hj : j < 4) (h : crd M j) (h1 : M' (14 + j) 1 = M (14 + j) 1) (h2 : M' (14 + j) 2 = M (14 + j) 2) (h3 : M' 62 j = M 62 j) (h4 : M' 63 j = M 63 j) (h5 : ∀ i, M' (18 + j) i = M (18 + j) i) (h6 : ∀ i, M' 64 i = M 64 i) : crd M' j := by
  unfold crd at h ⊢
  rw [h1, h2, h3, h4]
  refine ⟨h.1, fun i hi => ?_⟩
  rw [h5, h6]
  exact h.2 i hi
theorem Rl_ag {M M' : zMem} (h : Rl M) (ha : Ag M M') : Rl M' := by
  obtain ⟨⟨w, P, h1, h2, h3⟩, h4, h5⟩ := h
  exact ⟨⟨w, P, cPg_ag h1 ha, rPg_ag h2 ha, mvs_ag h3 ha⟩, fun j hj => crd_ag hj (h4 j hj) ha, by rw [ha 0 6 (by decide), ha 60 0 (by decide)]; exact h5⟩
/-! fault, the page -/
theorem st_fault {M : zMem} (h : Rl M) : ∃ r, fX6_fault M = some r ∧ fX7_fault M = some r := ⟨M 0 6, rfl, by show some (M 60 0) = _; rw [h.2.2]⟩
theorem mvs_0 {M : zMem} {w : Nat} {x : Nat} (hx : x < 8) (h1 : M 1 4 = iI 0) (h2 : M 60 10 = iI 0) (h3 : M 1 5 = iI x) : mvs M w := ⟨0, x, by omega, hx, h1, h2, h3, fun i hi => absurd hi (by omega)⟩
theorem r_clear {M : zMem} : zlp (zu2 fX7_page_L20) zfu ((0 : Int32), M) = some (iI 768, zwa M 61 (fun j => if j < 768 then 0 else M 61 j)) := by
  refine zlp_seq (S := fun i => (iI (i : Int), zwa M 61 (fun j => if j < i then 0 else M 61 j))) _ 768 (by omega) ?_ (fun i hi => ?_) ?_
  · show _ = (iI 0, zwa M 61 (fun j => if j < 0 then 0 else M 61 j))
    rw [zwa_ext (g := M 61) (fun j => if_neg (by omega)), zwa_id]; rfl
  · show fX7_page_L20 (iI (i : Int)) _ = _
    unfold fX7_page_L20
    rw [li_768, fle_n (by omega) (by omega) (by omega), zc_in (by omega) (by omega) (by omega), zn_eq, iI_natN (by omega), zwa_zwr, nar0, li_1, iI_add]
    congr 3
    apply zwa_ext
    intro k
    unfold upd
    by_cases h1 : k = i
    · rw [if_pos h1, if_pos (by omega)]
    · rw [if_neg h1]
      dsimp only
      by_cases h2 : k < i
      · rw [if_pos h2, if_pos (by omega)]
      · rw [if_neg h2, if_neg (by omega)]
  · show fX7_page_L20 (iI ((768 : Nat) : Int)) _ = _
    unfold fX7_page_L20
    rw [li_768, fle_p (by omega) (by omega) (by omega)]; rfl
theorem st_page {M : zMem} (h : Rl M) (p : Int32) : ∃ r M1 M2, fX6_page p M = some (r, M1) ∧ fX7_page p M1 = some (r, M2) ∧ Rl M2 := by
  obtain ⟨z, z1, z2, rfl⟩ := iI_ex p
  have hR := h
  obtain ⟨⟨w, P, h1, h2, n, x, h3, hx, m1, m2, m3, -⟩, h4, h5⟩ := h
  by_cases hz : 1 ≤ z ∧ z ≤ 24
  · have e1 : fX6_page (iI z) M = some (iI (inkN P w), zwr (zwa (zwr M 1 3 (iI z)) 2 (fun j => if j < 24 then 0 else M 2 j)) 1 4 (iI 0)) := by
      rcases (show 1 < z ∨ z = 1 by omega) with q | q
      · simp (disch := omega) only [zn_eq, zj_eq, zb1_eq, zb2_eq, zb3_eq, zbr_l, zbr_r, zc_in, iI_add, iI_sub, iI_mul, iI_neg, iI_lt, iI_le, iI_eq, zwr_zwr, zwa_zwa, zwr_s, zwr_o, zwr_O, zwr_k, zwa_s, zwa_S, zwa_o, zwa_O, upd_s, upd_o, if_true, if_false, if_pos, if_neg, iI_natN, iI_nat, Int.toNat_natCast, li_0, li_1, li_2, li_3, li_4, li_5, li_6, li_7, li_8, li_9, li_10, li_11, li_12, li_15, li_16, li_18, li_22, li_23, li_24, li_28, li_31, li_32, li_33, li_40, li_52, li_53, li_63, li_64, li_85, li_86, li_96, li_99, li_100, li_127, li_128, li_200, li_201, li_384, li_768, li_1023, li_5376, li_6144, fX6_page, fX4_renew, zmmax, zmmin, c_ink h1, f_fill, fX4_forgetMoves]
      · subst q; simp (disch := omega) only [zn_eq, zj_eq, zb1_eq, zb2_eq, zb3_eq, zbr_l, zbr_r, zc_in, iI_add, iI_sub, iI_mul, iI_neg, iI_lt, iI_le, iI_eq, zwr_zwr, zwa_zwa, zwr_s, zwr_o, zwr_O, zwr_k, zwa_s, zwa_S, zwa_o, zwa_O, upd_s, upd_o, if_true, if_false, if_pos, if_neg, iI_natN, iI_nat, Int.toNat_natCast, li_0, li_1, li_2, li_3, li_4, li_5, li_6, li_7, li_8, li_9, li_10, li_11, li_12, li_15, li_16, li_18, li_22, li_23, li_24, li_28, li_31, li_32, li_33, li_40, li_52, li_53, li_63, li_64, li_85, li_86, li_96, li_99, li_100, li_127, li_128, li_200, li_201, li_384, li_768, li_1023, li_5376, li_6144, fX6_page, fX4_renew, zmmax, zmmin, c_ink h1, f_fill, fX4_forgetMoves]
    obtain ⟨M1, eM⟩ : ∃ M1, M1 = zwr (zwa (zwr M 1 3 (iI z)) 2 (fun j => if j < 24 then 0 else M 2 j)) 1 4 (iI 0) := ⟨_, rfl⟩
    rw [← eM] at e1
    have hr : rPg M1 w P := by
      obtain ⟨a1, a2, a3, a4, a5⟩ := h2
      refine ⟨a1, a2, ?_, fun k hk r hr => ?_, a5⟩
      · rw [eM]; simp (disch := omega) only [zn_eq, zj_eq, zb1_eq, zb2_eq, zb3_eq, zbr_l, zbr_r, zc_in, iI_add, iI_sub, iI_mul, iI_neg, iI_lt, iI_le, iI_eq, zwr_zwr, zwa_zwa, zwr_s, zwr_o, zwr_O, zwr_k, zwa_s, zwa_S, zwa_o, zwa_O, upd_s, upd_o, if_true, if_false, if_pos, if_neg, iI_natN, iI_nat, Int.toNat_natCast, li_0, li_1, li_2, li_3, li_4, li_5, li_6, li_7, li_8, li_9, li_10, li_11, li_12, li_15, li_16, li_18, li_22, li_23, li_24, li_28, li_31, li_32, li_33, li_40, li_52, li_53, li_63, li_64, li_85, li_86, li_96, li_99, li_100, li_127, li_128, li_200, li_201, li_384, li_768, li_1023, li_5376, li_6144, a3]
      · rw [eM]; simp (disch := omega) only [zn_eq, zj_eq, zb1_eq, zb2_eq, zb3_eq, zbr_l, zbr_r, zc_in, iI_add, iI_sub, iI_mul, iI_neg, iI_lt, iI_le, iI_eq, zwr_zwr, zwa_zwa, zwr_s, zwr_o, zwr_O, zwr_k, zwa_s, zwa_S, zwa_o, zwa_O, upd_s, upd_o, if_true, if_false, if_pos, if_neg, iI_natN, iI_nat, Int.toNat_natCast, li_0, li_1, li_2, li_3, li_4, li_5, li_6, li_7, li_8, li_9, li_10, li_11, li_12, li_15, li_16, li_18, li_22, li_23, li_24, li_28, li_31, li_32, li_33, li_40, li_52, li_53, li_63, li_64, li_85, li_86, li_96, li_99, li_100, li_127, li_128, li_200, li_201, li_384, li_768, li_1023, li_5376, li_6144, a4 k hk r hr]
    have e2 : fX7_page (iI z) M1 = some (iI (inkN P w), zwr (zwr (zwa M1 61 (fun j => if j < 768 then 0 else M1 61 j)) 60 1 (iI z)) 60 10 (iI 0)) := by
      unfold fX7_page
      rw [li_1, li_24, r_within z 1 24 z1 z2 (by omega) (by omega) (by omega) (by omega), decide_eq_true hz.1, decide_eq_true hz.2, zb1_eq, if_neg (by decide), r_ink hr, zb1_eq, r_clear, zb1_eq]; rfl
    refine ⟨_, _, _, e1, e2, ?_, ?_, ?_⟩
    · refine ⟨z.toNat, fun _ _ => false, ⟨by omega, by omega, ?_, fun k hk r hr => ?_, fun k r h => by cases h⟩, ⟨by omega, by omega, ?_, fun k hk r hr => ?_, fun k r h => by cases h⟩, mvs_0 (x := x) hx ?_ ?_ ?_⟩
      · rw [eM]; simp (disch := omega) only [zn_eq, zj_eq, zb1_eq, zb2_eq, zb3_eq, zbr_l, zbr_r, zc_in, iI_add, iI_sub, iI_mul, iI_neg, iI_lt, iI_le, iI_eq, zwr_zwr, zwa_zwa, zwr_s, zwr_o, zwr_O, zwr_k, zwa_s, zwa_S, zwa_o, zwa_O, upd_s, upd_o, if_true, if_false, if_pos, if_neg, iI_natN, iI_nat, Int.toNat_natCast, li_0, li_1, li_2, li_3, li_4, li_5, li_6, li_7, li_8, li_9, li_10, li_11, li_12, li_15, li_16, li_18, li_22, li_23, li_24, li_28, li_31, li_32, li_33, li_40, li_52, li_53, li_63, li_64, li_85, li_86, li_96, li_99, li_100, li_127, li_128, li_200, li_201, li_384, li_768, li_1023, li_5376, li_6144]; congr 1; omega
      · rw [eM]; simp (disch := omega) only [zn_eq, zj_eq, zb1_eq, zb2_eq, zb3_eq, zbr_l, zbr_r, zc_in, iI_add, iI_sub, iI_mul, iI_neg, iI_lt, iI_le, iI_eq, zwr_zwr, zwa_zwa, zwr_s, zwr_o, zwr_O, zwr_k, zwa_s, zwa_S, zwa_o, zwa_O, upd_s, upd_o, if_true, if_false, if_pos, if_neg, iI_natN, iI_nat, Int.toNat_natCast, li_0, li_1, li_2, li_3, li_4, li_5, li_6, li_7, li_8, li_9, li_10, li_11, li_12, li_15, li_16, li_18, li_22, li_23, li_24, li_28, li_31, li_32, li_33, li_40, li_52, li_53, li_63, li_64, li_85, li_86, li_96, li_99, li_100, li_127, li_128, li_200, li_201, li_384, li_768, li_1023, li_5376, li_6144]; exact b_0 r
      · simp (disch := omega) only [zn_eq, zj_eq, zb1_eq, zb2_eq, zb3_eq, zbr_l, zbr_r, zc_in, iI_add, iI_sub, iI_mul, iI_neg, iI_lt, iI_le, iI_eq, zwr_zwr, zwa_zwa, zwr_s, zwr_o, zwr_O, zwr_k, zwa_s, zwa_S, zwa_o, zwa_O, upd_s, upd_o, if_true, if_false, if_pos, if_neg, iI_natN, iI_nat, Int.toNat_natCast, li_0, li_1, li_2, li_3, li_4, li_5, li_6, li_7, li_8, li_9, li_10, li_11, li_12, li_15, li_16, li_18, li_22, li_23, li_24, li_28, li_31, li_32, li_33, li_40, li_52, li_53, li_63, li_64, li_85, li_86, li_96, li_99, li_100, li_127, li_128, li_200, li_201, li_384, li_768, li_1023, li_5376, li_6144]; congr 1; omega
      · simp (disch := omega) only [zn_eq, zj_eq, zb1_eq, zb2_eq, zb3_eq, zbr_l, zbr_r, zc_in, iI_add, iI_sub, iI_mul, iI_neg, iI_lt, iI_le, iI_eq, zwr_zwr, zwa_zwa, zwr_s, zwr_o, zwr_O, zwr_k, zwa_s, zwa_S, zwa_o, zwa_O, upd_s, upd_o, if_true, if_false, if_pos, if_neg, iI_natN, iI_nat, Int.toNat_natCast, li_0, li_1, li_2, li_3, li_4, li_5, li_6, li_7, li_8, li_9, li_10, li_11, li_12, li_15, li_16, li_18, li_22, li_23, li_24, li_28, li_31, li_32, li_33, li_40, li_52, li_53, li_63, li_64, li_85, li_86, li_96, li_99, li_100, li_127, li_128, li_200, li_201, li_384, li_768, li_1023, li_5376, li_6144]; rfl
      · rw [eM]; simp (disch := omega) only [zn_eq, zj_eq, zb1_eq, zb2_eq, zb3_eq, zbr_l, zbr_r, zc_in, iI_add, iI_sub, iI_mul, iI_neg, iI_lt, iI_le, iI_eq, zwr_zwr, zwa_zwa, zwr_s, zwr_o, zwr_O, zwr_k, zwa_s, zwa_S, zwa_o, zwa_O, upd_s, upd_o, if_true, if_false, if_pos, if_neg, iI_natN, iI_nat, Int.toNat_natCast, li_0, li_1, li_2, li_3, li_4, li_5, li_6, li_7, li_8, li_9, li_10, li_11, li_12, li_15, li_16, li_18, li_22, li_23, li_24, li_28, li_31, li_32, li_33, li_40, li_52, li_53, li_63, li_64, li_85, li_86, li_96, li_99, li_100, li_127, li_128, li_200, li_201, li_384, li_768, li_1023, li_5376, li_6144]
      · simp (disch := omega) only [zn_eq, zj_eq, zb1_eq, zb2_eq, zb3_eq, zbr_l, zbr_r, zc_in, iI_add, iI_sub, iI_mul, iI_neg, iI_lt, iI_le, iI_eq, zwr_zwr, zwa_zwa, zwr_s, zwr_o, zwr_O, zwr_k, zwa_s, zwa_S, zwa_o, zwa_O, upd_s, upd_o, if_true, if_false, if_pos, if_neg, iI_natN, iI_nat, Int.toNat_natCast, li_0, li_1, li_2, li_3, li_4, li_5, li_6, li_7, li_8, li_9, li_10, li_11, li_12, li_15, li_16, li_18, li_22, li_23, li_24, li_28, li_31, li_32, li_33, li_40, li_52, li_53, li_63, li_64, li_85, li_86, li_96, li_99, li_100, li_127, li_128, li_200, li_201, li_384, li_768, li_1023, li_5376, li_6144]
      · rw [eM]; simp (disch := omega) only [zn_eq, zj_eq, zb1_eq, zb2_eq, zb3_eq, zbr_l, zbr_r, zc_in, iI_add, iI_sub, iI_mul, iI_neg, iI_lt, iI_le, iI_eq, zwr_zwr, zwa_zwa, zwr_s, zwr_o, zwr_O, zwr_k, zwa_s, zwa_S, zwa_o, zwa_O, upd_s, upd_o, if_true, if_false, if_pos, if_neg, iI_natN, iI_nat, Int.toNat_natCast, li_0, li_1, li_2, li_3, li_4, li_5, li_6, li_7, li_8, li_9, li_10, li_11, li_12, li_15, li_16, li_18, li_22, li_23, li_24, li_28, li_31, li_32, li_33, li_40, li_52, li_53, li_63, li_64, li_85, li_86, li_96, li_99, li_100, li_127, li_128, li_200, li_201, li_384, li_768, li_1023, li_5376, li_6144]; exact m3
    · intro j hj
      refine crd_ag' hj (h4 j hj) ?_ ?_ ?_ ?_ ?_ ?_ <;> intros <;> rw [eM] <;> simp (disch := omega) only [zn_eq, zj_eq, zb1_eq, zb2_eq, zb3_eq, zbr_l, zbr_r, zc_in, iI_add, iI_sub, iI_mul, iI_neg, iI_lt, iI_le, iI_eq, zwr_zwr, zwa_zwa, zwr_s, zwr_o, zwr_O, zwr_k, zwa_s, zwa_S, zwa_o, zwa_O, upd_s, upd_o, if_true, if_false, if_pos, if_neg, iI_natN, iI_nat, Int.toNat_natCast, li_0, li_1, li_2, li_3, li_4, li_5, li_6, li_7, li_8, li_9, li_10, li_11, li_12, li_15, li_16, li_18, li_22, li_23, li_24, li_28, li_31, li_32, li_33, li_40, li_52, li_53, li_63, li_64, li_85, li_86, li_96, li_99, li_100, li_127, li_128, li_200, li_201, li_384, li_768, li_1023, li_5376, li_6144]
    · rw [eM]; simp (disch := omega) only [zn_eq, zj_eq, zb1_eq, zb2_eq, zb3_eq, zbr_l, zbr_r, zc_in, iI_add, iI_sub, iI_mul, iI_neg, iI_lt, iI_le, iI_eq, zwr_zwr, zwa_zwa, zwr_s, zwr_o, zwr_O, zwr_k, zwa_s, zwa_S, zwa_o, zwa_O, upd_s, upd_o, if_true, if_false, if_pos, if_neg, iI_natN, iI_nat, Int.toNat_natCast, li_0, li_1, li_2, li_3, li_4, li_5, li_6, li_7, li_8, li_9, li_10, li_11, li_12, li_15, li_16, li_18, li_22, li_23, li_24, li_28, li_31, li_32, li_33, li_40, li_52, li_53, li_63, li_64, li_85, li_86, li_96, li_99, li_100, li_127, li_128, li_200, li_201, li_384, li_768, li_1023, li_5376, li_6144]; exact h5
  · refine ⟨iI (-2), M, M, ?_, ?_, hR⟩
    · unfold fX6_page
      rcases (show z < 1 ∨ 24 < z by omega) with q | q
      · simp (disch := omega) only [zn_eq, zj_eq, zb1_eq, zb2_eq, zb3_eq, zbr_l, zbr_r, zc_in, iI_add, iI_sub, iI_mul, iI_neg, iI_lt, iI_le, iI_eq, zwr_zwr, zwa_zwa, zwr_s, zwr_o, zwr_O, zwr_k, zwa_s, zwa_S, zwa_o, zwa_O, upd_s, upd_o, if_true, if_false, if_pos, if_neg, iI_natN, iI_nat, Int.toNat_natCast, li_0, li_1, li_2, li_3, li_4, li_5, li_6, li_7, li_8, li_9, li_10, li_11, li_12, li_15, li_16, li_18, li_22, li_23, li_24, li_28, li_31, li_32, li_33, li_40, li_52, li_53, li_63, li_64, li_85, li_86, li_96, li_99, li_100, li_127, li_128, li_200, li_201, li_384, li_768, li_1023, li_5376, li_6144]
      · simp (disch := omega) only [zn_eq, zj_eq, zb1_eq, zb2_eq, zb3_eq, zbr_l, zbr_r, zc_in, iI_add, iI_sub, iI_mul, iI_neg, iI_lt, iI_le, iI_eq, zwr_zwr, zwa_zwa, zwr_s, zwr_o, zwr_O, zwr_k, zwa_s, zwa_S, zwa_o, zwa_O, upd_s, upd_o, if_true, if_false, if_pos, if_neg, iI_natN, iI_nat, Int.toNat_natCast, li_0, li_1, li_2, li_3, li_4, li_5, li_6, li_7, li_8, li_9, li_10, li_11, li_12, li_15, li_16, li_18, li_22, li_23, li_24, li_28, li_31, li_32, li_33, li_40, li_52, li_53, li_63, li_64, li_85, li_86, li_96, li_99, li_100, li_127, li_128, li_200, li_201, li_384, li_768, li_1023, li_5376, li_6144]
    · unfold fX7_page
      rw [li_1, li_24, r_within z 1 24 z1 z2 (by omega) (by omega) (by omega) (by omega), zb1_eq, if_pos]
      · rfl
      · rcases (show z < 1 ∨ 24 < z by omega) with q | q
        · rw [decide_eq_false (by omega)]; rfl
        · rw [decide_eq_false (p := z ≤ 24) (by omega), Bool.and_false]; rfl
