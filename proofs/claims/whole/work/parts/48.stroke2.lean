theorem zj_if {α β : Type} {K : α → Option β} {c : Prop} [Decidable c] {a b : α} {z : Bool} (hz : z = true) : zj K (fun k => if c then k a else zc z (k b)) = K (if c then a else b) := by
  rw [zj_eq]
  by_cases q : c
  · rw [if_pos q, if_pos q]
  · rw [if_neg q, if_neg q, zc_t hz]
theorem ite_mn {v x : Int} (h1 : -1000 ≤ v) (h2 : v ≤ 1000) (h3 : -1000 ≤ x) (h4 : x ≤ 1000) : (if iI v ≤ iI x then iI v else iI x) = iI (if x < v then x else v) := by
  by_cases q : x < v
  · rw [fle_n (by omega) (by omega) (by omega), if_pos q]
  · rw [fle_p (by omega) (by omega) (by omega), if_neg q]
theorem ite_mx {v x : Int} (h1 : -1000 ≤ v) (h2 : v ≤ 1000) (h3 : -1000 ≤ x) (h4 : x ≤ 1000) : (if iI x ≤ iI v then iI v else iI x) = iI (if v < x then x else v) := by
  by_cases q : v < x
  · rw [fle_n (by omega) (by omega) (by omega), if_pos q]
  · rw [fle_p (by omega) (by omega) (by omega), if_neg q]
def S7 (P : Nat → Nat → Bool) (w : Nat) (ρ : Nat → Nat) (s j : Nat) : Int32 × Int32 × Int32 × Int32 × Int32 × Int32 × Int32 := (iI (j : Int), iI (fd (slc ρ s) (gmx (laR P w)) (-1) j), iI (fd (slc ρ s) (gmn (fiR P w)) 24 j), iI (fd (slc ρ s) (gmx (roR P w)) (-1) j), iI (fd (slc ρ s) (gmn (roR P w)) 32 j), iI (fb_si (rnS ρ s) j), iI (fb_si (dtS P w ρ s) j))
theorem r_stroke7 {M : zMem} {P : Nat → Nat → Bool} {w s : Nat} {ρ : Nat → Nat} (hw : w ≤ 24) (hM : rSt P w M ρ) (hρ : rOK P w ρ) (hs : s ≤ 384) : zlp (zu7 (fX7_stroke_L54 (iI s) M)) zfu (iI 0, iI (-1), iI 24, iI (-1), iI 32, iI 0, iI 0) = some (S7 P w ρ s (nR P w)) := by
  have hN := nR_le P hw
  refine zlp_seq (S := S7 P w ρ s) _ (nR P w) (by omega) rfl (fun j hj => ?_) ?_
  · obtain ⟨b1, b2, b3⟩ := R_bd P hw hj
    obtain ⟨m1, m2, m3⟩ := hM.1.2 j hj
    have hr := (hρ.1 j).1
    have hnu := nu_le ρ (ρ j)
    have d1 := gmx_bd (sel := slc ρ s) (f := laR P w) (a := -1) (by omega) (by omega) (show j ≤ nR P w by omega) (fun j hj => by have := R_bd P hw hj; omega)
    have d2 := gmn_bd (sel := slc ρ s) (f := fiR P w) (a := 24) (by omega) (by omega) (show j ≤ nR P w by omega) (fun j hj => by have := R_bd P hw hj; omega)
    have d3 := gmx_bd (sel := slc ρ s) (f := roR P w) (a := -1) (by omega) (by omega) (show j ≤ nR P w by omega) (fun j hj => by have := R_bd P hw hj; omega)
    have d4 := gmn_bd (sel := slc ρ s) (f := roR P w) (a := 32) (by omega) (by omega) (show j ≤ nR P w by omega) (fun j hj => by have := R_bd P hw hj; omega)
    show fX7_stroke_L54 (iI s) M (iI (j : Int)) (iI (fd (slc ρ s) (gmx (laR P w)) (-1) j)) (iI (fd (slc ρ s) (gmn (fiR P w)) 24 j)) (iI (fd (slc ρ s) (gmx (roR P w)) (-1) j)) (iI (fd (slc ρ s) (gmn (roR P w)) 32 j)) (iI (fb_si (rnS ρ s) j)) (iI (fb_si (dtS P w ρ s) j)) = some (.inl (iI ((j + 1 : Nat) : Int), iI (if slc ρ s j = true then gmx (laR P w) j (fd (slc ρ s) (gmx (laR P w)) (-1) j) else fd (slc ρ s) (gmx (laR P w)) (-1) j), iI (if slc ρ s j = true then gmn (fiR P w) j (fd (slc ρ s) (gmn (fiR P w)) 24 j) else fd (slc ρ s) (gmn (fiR P w)) 24 j), iI (if slc ρ s j = true then gmx (roR P w) j (fd (slc ρ s) (gmx (roR P w)) (-1) j) else fd (slc ρ s) (gmx (roR P w)) (-1) j), iI (if slc ρ s j = true then gmn (roR P w) j (fd (slc ρ s) (gmn (roR P w)) 32 j) else fd (slc ρ s) (gmn (roR P w)) 32 j), iI (fb_si (rnS ρ s) j + rnS ρ s j), iI (fb_si (dtS P w ρ s) j + dtS P w ρ s j)))
    obtain ⟨V1, e1⟩ : ∃ V, V = fd (slc ρ s) (gmx (laR P w)) (-1) j := ⟨_, rfl⟩
    obtain ⟨V2, e2⟩ : ∃ V, V = fd (slc ρ s) (gmn (fiR P w)) 24 j := ⟨_, rfl⟩
    obtain ⟨V3, e3⟩ : ∃ V, V = fd (slc ρ s) (gmx (roR P w)) (-1) j := ⟨_, rfl⟩
    obtain ⟨V4, e4⟩ : ∃ V, V = fd (slc ρ s) (gmn (roR P w)) 32 j := ⟨_, rfl⟩
    obtain ⟨V5, e5⟩ : ∃ V, V = fb_si (rnS ρ s) j := ⟨_, rfl⟩
    obtain ⟨V6, e6⟩ : ∃ V, V = fb_si (dtS P w ρ s) j := ⟨_, rfl⟩
    rw [← e1] at d1
    rw [← e2] at d2
    rw [← e3] at d3
    rw [← e4] at d4
    rw [← e1, ← e2, ← e3, ← e4, ← e5, ← e6]
    unfold fX7_stroke_L54
    rw [hM.1.1, fle_n (by omega) (by omega) (by omega), zc_in (by omega) (by omega) (by omega), zj_eq, iI_natN (by omega), hM.2.2 j hj, m1, m2, m3, li_1, iI_add, iI_add, iI_add, iI_add, iI_sub]
    by_cases q : nu ρ (ρ j) = s
    · have hsl : slc ρ s j = true := decide_eq_true q
      have h5 : rnS ρ s j = 1 := by unfold rnS; rw [if_pos hsl]
      have h6 : dtS P w ρ s j = (laR P w j : Int) - (fiR P w j : Int) + 1 := by unfold dtS; rw [if_pos hsl]
      rw [if_pos hsl, if_pos hsl, if_pos hsl, if_pos hsl, h5, h6, if_pos (by rw [q]), zc_in (by omega) (by omega) (by omega), zc_in (by omega) (by omega) (by omega), zn_eq, zc_in (by omega) (by omega) (by omega), zn_eq, zc_in (by omega) (by omega) (by omega), zj_if (iI_in (by omega) (by omega) (by omega)), zc_in (by omega) (by omega) (by omega), zj_if (iI_in (by omega) (by omega) (by omega)), zc_in (by omega) (by omega) (by omega), zj_if (iI_in (by omega) (by omega) (by omega)), zn_eq]
      dsimp only
      rw [ite_mn (by omega) (by omega) (by omega) (by omega), ite_mx (by omega) (by omega) (by omega) (by omega), ite_mn (by omega) (by omega) (by omega) (by omega), show (fiR P w j : Int) + ((laR P w j : Int) - (fiR P w j : Int) + 1) - 1 = (laR P w j : Int) by omega, ite_mx (by omega) (by omega) (by omega) (by omega)]
      rfl
    · have hsl : slc ρ s j = false := decide_eq_false q
      have h5 : rnS ρ s j = 0 := by unfold rnS; rw [if_neg (by rw [hsl]; decide)]
      have h6 : dtS P w ρ s j = 0 := by unfold dtS; rw [if_neg (by rw [hsl]; decide)]
      rw [feq_n (by omega) (by omega) (by omega), hsl, if_neg (by decide), if_neg (by decide), if_neg (by decide), if_neg (by decide), h5, h6, Int.add_zero, Int.add_zero]
      rfl
  · show fX7_stroke_L54 (iI s) M (iI (nR P w : Int)) _ _ _ _ _ _ = _
    unfold fX7_stroke_L54
    rw [hM.1.1, fle_p (by omega) (by omega) (by omega)]
    rfl
theorem st_stroke {M : zMem} (h : Rl M) (p q : Int32) : ∃ o M1 M2, fX6_stroke p q M = some (o, M1) ∧ fX7_stroke p q M1 = some (o, M2) ∧ Rl M2 := by
  obtain ⟨s, k1, k2, rfl⟩ := iI_ex p
  obtain ⟨v, v1, v2, rfl⟩ := iI_ex q
  have hR := h
  obtain ⟨⟨w, P, h1, h2, -⟩, -⟩ := h
  have hw := h1.2.1
  have hN := nR_le P hw
  obtain ⟨M1, ρ, e1, t1, hρ, f1⟩ := c_find h1
  obtain ⟨M2, e2, t2, f2⟩ := r_find (rPg_ag h2 (cFo_ag f1)) hρ
  have hR2 : Rl M2 := Rl_ag (Rl_ag hR (cFo_ag f1)) f2
  have n1 := t1.2.1
  have n2 := t2.2.1
  have hnu := nu_le ρ (nR P w)
  by_cases hk : 0 ≤ s ∧ s < nu ρ (nR P w)
  · obtain ⟨s, rfl⟩ : ∃ n : Nat, s = n := ⟨s.toNat, by omega⟩
    have hs : s ≤ 384 := by omega
    have r7 := r_stroke7 hw t2 hρ hs
    have hex : ∃ j, j < nR P w ∧ slc ρ s j = true := by
      obtain ⟨i, i1, i2, i3⟩ := fb_ct_kth (p := fun i => decide (ρ i = i)) (show s < fb_ct (fun i => decide (ρ i = i)) (nR P w) by have := hk.2; unfold nu at this; omega)
      rw [decide_eq_true_iff] at i2
      exact ⟨i, i1, by unfold slc nu; rw [i2, i3]; exact decide_eq_true rfl⟩
    have hall : ∀ {g : Nat → Int → Int} {a b : Int}, (∀ j, j < nR P w → g j a = g j b) → fd (slc ρ s) g a (nR P w) = fd (slc ρ s) g b (nR P w) := by
      intro g a b hg
      rcases fd_eq (sel := slc ρ s) (g := g) (a := a) (b := b) (nR P w) hg with ⟨i1, -, -⟩ | ⟨-, i2⟩
      · obtain ⟨j, j1, j2⟩ := hex
        rw [i1 j j1] at j2; cases j2
      · exact i2
    have hro : ∀ j, j < nR P w → M1 27 j = iI (roR P w j) ∧ roR P w j < 32 := fun j hj => ⟨(t1.1.2 j hj).1, (R_bd P hw hj).1⟩
    have hfi : ∀ j, j < nR P w → M1 28 j = iI (fiR P w j) ∧ fiR P w j < 32 := fun j hj => ⟨(t1.1.2 j hj).2.1, by have := R_bd P hw hj; omega⟩
    have hla : ∀ j, j < nR P w → M1 29 j = iI (laR P w j) ∧ laR P w j < 32 := fun j hj => ⟨(t1.1.2 j hj).2.2, by have := R_bd P hw hj; omega⟩
    have g3 : fd (slc ρ s) (gmx (roR P w)) 0 (nR P w) = fd (slc ρ s) (gmx (roR P w)) (-1) (nR P w) := hall (fun j hj => by
      unfold gmx
      by_cases g : (0 : Int) < (roR P w j : Int)
      · rw [if_pos g, if_pos (by omega)]
      · rw [if_neg g, if_pos (by omega)]; omega)
    have g5 : fd (slc ρ s) (gmx (laR P w)) 0 (nR P w) = fd (slc ρ s) (gmx (laR P w)) (-1) (nR P w) := hall (fun j hj => by
      unfold gmx
      by_cases g : (0 : Int) < (laR P w j : Int)
      · rw [if_pos g, if_pos (by omega)]
      · rw [if_neg g, if_pos (by omega)]; omega)
    have g4 : fd (slc ρ s) (gmn (fiR P w)) 32 (nR P w) = fd (slc ρ s) (gmn (fiR P w)) 24 (nR P w) := hall (fun j hj => by
      have := R_bd P hw hj
      unfold gmn
      rw [if_pos (by omega), if_pos (by omega)])
    have hc : ∀ (o : Int32) , (fX7_stroke (iI s) (iI v) M1 = some (o, M2)) → (fX6_stroke (iI s) (iI v) M = some (o, M1)) → ∃ o M1 M2, fX6_stroke (iI s) (iI v) M = some (o, M1) ∧ fX7_stroke (iI s) (iI v) M1 = some (o, M2) ∧ Rl M2 := fun o a b => ⟨o, M1, M2, b, a, hR2⟩
    have hr : ∀ V : Int, 0 ≤ V → V ≤ 5 → v = V → fX7_stroke (iI s) (iI v) M1 = (zu7 (fun (x57 : Int32) (x58 : Int32) (x59 : Int32) (x60 : Int32) (x61 : Int32) (x62 : Int32) (x63 : Int32) => if iI v = (0 : Int32) then (some (x63, M2)) else (if iI v = (1 : Int32) then (some (x62, M2)) else (if iI v = (2 : Int32) then (some (x61, M2)) else (if iI v = (3 : Int32) then (some (x60, M2)) else (if iI v = (4 : Int32) then (some (x59, M2)) else (some (x58, M2)))))))) (S7 P w ρ s (nR P w)) := by
      intro V V0 V5 eV
      unfold fX7_stroke
      rw [e2, zb1_eq, n2, li_0, li_1, iI_sub, r_within1 hk.1 (by omega) (by omega) (by omega), zb1_eq, if_neg (by decide), show (5 : Int32) = iI 5 from rfl, r_within1 (by omega) (by omega) (by omega) (by omega), zb1_eq, if_neg (by decide), show (-iI 1 : Int32) = iI (-1) from rfl, li_24, li_32, r7, zb1_eq]
    rcases (show v = 0 ∨ v = 1 ∨ v = 2 ∨ v = 3 ∨ v = 4 ∨ v = 5 ∨ ¬ (0 ≤ v ∧ v ≤ 5) by omega) with rfl | rfl | rfl | rfl | rfl | rfl | hv
    · have cc := c_dotsT hw t1 hρ hs
      exact hc _ (hr 0 (by omega) (by omega) rfl) (by ((simp (disch := omega) only [zn_eq, zj_eq, zb1_eq, zb2_eq, zb3_eq, zbr_l, zbr_r, zc_in, iI_add, iI_sub, iI_mul, iI_neg, iI_lt, iI_le, iI_eq, zwr_zwr, zwa_zwa, zwr_s, zwr_o, zwr_O, zwr_k, zwa_s, zwa_S, zwa_o, zwa_O, upd_s, upd_o, if_true, if_false, if_pos, if_neg, iI_natN, iI_nat, Int.toNat_natCast, c_isRow1, c_isRow0, c_isCard1, c_isCard0, r_within1, r_within0, r_isRow1, r_isRow0, r_isCard1, r_isCard0, c_isAxis1, c_isAxis0, c_isShear1, c_isShear0, r_isAxis1, r_isAxis0, r_isShear1, r_isShear0, zc_cp, li_0, li_1, li_2, li_3, li_4, li_5, li_6, li_7, li_8, li_9, li_10, li_11, li_12, li_15, li_16, li_18, li_22, li_23, li_24, li_28, li_31, li_32, li_33, li_40, li_52, li_53, li_63, li_64, li_85, li_86, li_96, li_99, li_100, li_127, li_128, li_200, li_201, li_384, li_768, li_1023, li_5376, li_6144, fX6_stroke, e1, fX5_count, n1, cc]); try rfl))
    · have cc := c_runsT hw t1 hρ hs
      exact hc _ (hr 1 (by omega) (by omega) rfl) (by ((simp (disch := omega) only [zn_eq, zj_eq, zb1_eq, zb2_eq, zb3_eq, zbr_l, zbr_r, zc_in, iI_add, iI_sub, iI_mul, iI_neg, iI_lt, iI_le, iI_eq, zwr_zwr, zwa_zwa, zwr_s, zwr_o, zwr_O, zwr_k, zwa_s, zwa_S, zwa_o, zwa_O, upd_s, upd_o, if_true, if_false, if_pos, if_neg, iI_natN, iI_nat, Int.toNat_natCast, c_isRow1, c_isRow0, c_isCard1, c_isCard0, r_within1, r_within0, r_isRow1, r_isRow0, r_isCard1, r_isCard0, c_isAxis1, c_isAxis0, c_isShear1, c_isShear0, r_isAxis1, r_isAxis0, r_isShear1, r_isShear0, zc_cp, li_0, li_1, li_2, li_3, li_4, li_5, li_6, li_7, li_8, li_9, li_10, li_11, li_12, li_15, li_16, li_18, li_22, li_23, li_24, li_28, li_31, li_32, li_33, li_40, li_52, li_53, li_63, li_64, li_85, li_86, li_96, li_99, li_100, li_127, li_128, li_200, li_201, li_384, li_768, li_1023, li_5376, li_6144, fX6_stroke, e1, fX5_count, n1, cc]); try rfl))
    · have cc := c_least hw t1 hρ hs hro
      exact hc _ (hr 2 (by omega) (by omega) rfl) (by ((simp (disch := omega) only [zn_eq, zj_eq, zb1_eq, zb2_eq, zb3_eq, zbr_l, zbr_r, zc_in, iI_add, iI_sub, iI_mul, iI_neg, iI_lt, iI_le, iI_eq, zwr_zwr, zwa_zwa, zwr_s, zwr_o, zwr_O, zwr_k, zwa_s, zwa_S, zwa_o, zwa_O, upd_s, upd_o, if_true, if_false, if_pos, if_neg, iI_natN, iI_nat, Int.toNat_natCast, c_isRow1, c_isRow0, c_isCard1, c_isCard0, r_within1, r_within0, r_isRow1, r_isRow0, r_isCard1, r_isCard0, c_isAxis1, c_isAxis0, c_isShear1, c_isShear0, r_isAxis1, r_isAxis0, r_isShear1, r_isShear0, zc_cp, li_0, li_1, li_2, li_3, li_4, li_5, li_6, li_7, li_8, li_9, li_10, li_11, li_12, li_15, li_16, li_18, li_22, li_23, li_24, li_28, li_31, li_32, li_33, li_40, li_52, li_53, li_63, li_64, li_85, li_86, li_96, li_99, li_100, li_127, li_128, li_200, li_201, li_384, li_768, li_1023, li_5376, li_6144, fX6_stroke, e1, fX5_count, n1, fX5_leastRow, cc]); try rfl))
    · have cc := c_greatest hw t1 hρ hs hro
      rw [g3] at cc
      exact hc _ (hr 3 (by omega) (by omega) rfl) (by ((simp (disch := omega) only [zn_eq, zj_eq, zb1_eq, zb2_eq, zb3_eq, zbr_l, zbr_r, zc_in, iI_add, iI_sub, iI_mul, iI_neg, iI_lt, iI_le, iI_eq, zwr_zwr, zwa_zwa, zwr_s, zwr_o, zwr_O, zwr_k, zwa_s, zwa_S, zwa_o, zwa_O, upd_s, upd_o, if_true, if_false, if_pos, if_neg, iI_natN, iI_nat, Int.toNat_natCast, c_isRow1, c_isRow0, c_isCard1, c_isCard0, r_within1, r_within0, r_isRow1, r_isRow0, r_isCard1, r_isCard0, c_isAxis1, c_isAxis0, c_isShear1, c_isShear0, r_isAxis1, r_isAxis0, r_isShear1, r_isShear0, zc_cp, li_0, li_1, li_2, li_3, li_4, li_5, li_6, li_7, li_8, li_9, li_10, li_11, li_12, li_15, li_16, li_18, li_22, li_23, li_24, li_28, li_31, li_32, li_33, li_40, li_52, li_53, li_63, li_64, li_85, li_86, li_96, li_99, li_100, li_127, li_128, li_200, li_201, li_384, li_768, li_1023, li_5376, li_6144, fX6_stroke, e1, fX5_count, n1, fX5_greatestRow, cc]); try rfl))
    · have cc := c_least hw t1 hρ hs hfi
      rw [g4] at cc
      exact hc _ (hr 4 (by omega) (by omega) rfl) (by ((simp (disch := omega) only [zn_eq, zj_eq, zb1_eq, zb2_eq, zb3_eq, zbr_l, zbr_r, zc_in, iI_add, iI_sub, iI_mul, iI_neg, iI_lt, iI_le, iI_eq, zwr_zwr, zwa_zwa, zwr_s, zwr_o, zwr_O, zwr_k, zwa_s, zwa_S, zwa_o, zwa_O, upd_s, upd_o, if_true, if_false, if_pos, if_neg, iI_natN, iI_nat, Int.toNat_natCast, c_isRow1, c_isRow0, c_isCard1, c_isCard0, r_within1, r_within0, r_isRow1, r_isRow0, r_isCard1, r_isCard0, c_isAxis1, c_isAxis0, c_isShear1, c_isShear0, r_isAxis1, r_isAxis0, r_isShear1, r_isShear0, zc_cp, li_0, li_1, li_2, li_3, li_4, li_5, li_6, li_7, li_8, li_9, li_10, li_11, li_12, li_15, li_16, li_18, li_22, li_23, li_24, li_28, li_31, li_32, li_33, li_40, li_52, li_53, li_63, li_64, li_85, li_86, li_96, li_99, li_100, li_127, li_128, li_200, li_201, li_384, li_768, li_1023, li_5376, li_6144, fX6_stroke, e1, fX5_count, n1, fX5_leastColumn, cc]); try rfl))
    · have cc := c_greatest hw t1 hρ hs hla
      rw [g5] at cc
      exact hc _ (hr 5 (by omega) (by omega) rfl) (by ((simp (disch := omega) only [zn_eq, zj_eq, zb1_eq, zb2_eq, zb3_eq, zbr_l, zbr_r, zc_in, iI_add, iI_sub, iI_mul, iI_neg, iI_lt, iI_le, iI_eq, zwr_zwr, zwa_zwa, zwr_s, zwr_o, zwr_O, zwr_k, zwa_s, zwa_S, zwa_o, zwa_O, upd_s, upd_o, if_true, if_false, if_pos, if_neg, iI_natN, iI_nat, Int.toNat_natCast, c_isRow1, c_isRow0, c_isCard1, c_isCard0, r_within1, r_within0, r_isRow1, r_isRow0, r_isCard1, r_isCard0, c_isAxis1, c_isAxis0, c_isShear1, c_isShear0, r_isAxis1, r_isAxis0, r_isShear1, r_isShear0, zc_cp, li_0, li_1, li_2, li_3, li_4, li_5, li_6, li_7, li_8, li_9, li_10, li_11, li_12, li_15, li_16, li_18, li_22, li_23, li_24, li_28, li_31, li_32, li_33, li_40, li_52, li_53, li_63, li_64, li_85, li_86, li_96, li_99, li_100, li_127, li_128, li_200, li_201, li_384, li_768, li_1023, li_5376, li_6144, fX6_stroke, e1, fX5_count, n1, fX5_greatestColumn, cc]); try rfl))
    · refine ⟨iI (-2), M1, M2, ?_, ?_, hR2⟩
      · ((simp (disch := omega) only [zn_eq, zj_eq, zb1_eq, zb2_eq, zb3_eq, zbr_l, zbr_r, zc_in, iI_add, iI_sub, iI_mul, iI_neg, iI_lt, iI_le, iI_eq, zwr_zwr, zwa_zwa, zwr_s, zwr_o, zwr_O, zwr_k, zwa_s, zwa_S, zwa_o, zwa_O, upd_s, upd_o, if_true, if_false, if_pos, if_neg, iI_natN, iI_nat, Int.toNat_natCast, c_isRow1, c_isRow0, c_isCard1, c_isCard0, r_within1, r_within0, r_isRow1, r_isRow0, r_isCard1, r_isCard0, c_isAxis1, c_isAxis0, c_isShear1, c_isShear0, r_isAxis1, r_isAxis0, r_isShear1, r_isShear0, zc_cp, li_0, li_1, li_2, li_3, li_4, li_5, li_6, li_7, li_8, li_9, li_10, li_11, li_12, li_15, li_16, li_18, li_22, li_23, li_24, li_28, li_31, li_32, li_33, li_40, li_52, li_53, li_63, li_64, li_85, li_86, li_96, li_99, li_100, li_127, li_128, li_200, li_201, li_384, li_768, li_1023, li_5376, li_6144, fX6_stroke, e1, fX5_count, n1]); try rfl)
      · ((simp (disch := omega) only [zn_eq, zj_eq, zb1_eq, zb2_eq, zb3_eq, zbr_l, zbr_r, zc_in, iI_add, iI_sub, iI_mul, iI_neg, iI_lt, iI_le, iI_eq, zwr_zwr, zwa_zwa, zwr_s, zwr_o, zwr_O, zwr_k, zwa_s, zwa_S, zwa_o, zwa_O, upd_s, upd_o, if_true, if_false, if_pos, if_neg, iI_natN, iI_nat, Int.toNat_natCast, c_isRow1, c_isRow0, c_isCard1, c_isCard0, r_within1, r_within0, r_isRow1, r_isRow0, r_isCard1, r_isCard0, c_isAxis1, c_isAxis0, c_isShear1, c_isShear0, r_isAxis1, r_isAxis0, r_isShear1, r_isShear0, zc_cp, li_0, li_1, li_2, li_3, li_4, li_5, li_6, li_7, li_8, li_9, li_10, li_11, li_12, li_15, li_16, li_18, li_22, li_23, li_24, li_28, li_31, li_32, li_33, li_40, li_52, li_53, li_63, li_64, li_85, li_86, li_96, li_99, li_100, li_127, li_128, li_200, li_201, li_384, li_768, li_1023, li_5376, li_6144, fX7_stroke, e2, n2]); try rfl)
  · refine ⟨iI (-1), M1, M2, ?_, ?_, hR2⟩
    · rcases (show s < 0 ∨ (nu ρ (nR P w) : Int) ≤ s by omega) with g | g
      · ((simp (disch := omega) only [zn_eq, zj_eq, zb1_eq, zb2_eq, zb3_eq, zbr_l, zbr_r, zc_in, iI_add, iI_sub, iI_mul, iI_neg, iI_lt, iI_le, iI_eq, zwr_zwr, zwa_zwa, zwr_s, zwr_o, zwr_O, zwr_k, zwa_s, zwa_S, zwa_o, zwa_O, upd_s, upd_o, if_true, if_false, if_pos, if_neg, iI_natN, iI_nat, Int.toNat_natCast, c_isRow1, c_isRow0, c_isCard1, c_isCard0, r_within1, r_within0, r_isRow1, r_isRow0, r_isCard1, r_isCard0, c_isAxis1, c_isAxis0, c_isShear1, c_isShear0, r_isAxis1, r_isAxis0, r_isShear1, r_isShear0, zc_cp, li_0, li_1, li_2, li_3, li_4, li_5, li_6, li_7, li_8, li_9, li_10, li_11, li_12, li_15, li_16, li_18, li_22, li_23, li_24, li_28, li_31, li_32, li_33, li_40, li_52, li_53, li_63, li_64, li_85, li_86, li_96, li_99, li_100, li_127, li_128, li_200, li_201, li_384, li_768, li_1023, li_5376, li_6144, fX6_stroke, e1, fX5_count, n1]); try rfl)
      · ((simp (disch := omega) only [zn_eq, zj_eq, zb1_eq, zb2_eq, zb3_eq, zbr_l, zbr_r, zc_in, iI_add, iI_sub, iI_mul, iI_neg, iI_lt, iI_le, iI_eq, zwr_zwr, zwa_zwa, zwr_s, zwr_o, zwr_O, zwr_k, zwa_s, zwa_S, zwa_o, zwa_O, upd_s, upd_o, if_true, if_false, if_pos, if_neg, iI_natN, iI_nat, Int.toNat_natCast, c_isRow1, c_isRow0, c_isCard1, c_isCard0, r_within1, r_within0, r_isRow1, r_isRow0, r_isCard1, r_isCard0, c_isAxis1, c_isAxis0, c_isShear1, c_isShear0, r_isAxis1, r_isAxis0, r_isShear1, r_isShear0, zc_cp, li_0, li_1, li_2, li_3, li_4, li_5, li_6, li_7, li_8, li_9, li_10, li_11, li_12, li_15, li_16, li_18, li_22, li_23, li_24, li_28, li_31, li_32, li_33, li_40, li_52, li_53, li_63, li_64, li_85, li_86, li_96, li_99, li_100, li_127, li_128, li_200, li_201, li_384, li_768, li_1023, li_5376, li_6144, fX6_stroke, e1, fX5_count, n1]); try rfl)
    · ((simp (disch := omega) only [zn_eq, zj_eq, zb1_eq, zb2_eq, zb3_eq, zbr_l, zbr_r, zc_in, iI_add, iI_sub, iI_mul, iI_neg, iI_lt, iI_le, iI_eq, zwr_zwr, zwa_zwa, zwr_s, zwr_o, zwr_O, zwr_k, zwa_s, zwa_S, zwa_o, zwa_O, upd_s, upd_o, if_true, if_false, if_pos, if_neg, iI_natN, iI_nat, Int.toNat_natCast, c_isRow1, c_isRow0, c_isCard1, c_isCard0, r_within1, r_within0, r_isRow1, r_isRow0, r_isCard1, r_isCard0, c_isAxis1, c_isAxis0, c_isShear1, c_isShear0, r_isAxis1, r_isAxis0, r_isShear1, r_isShear0, zc_cp, li_0, li_1, li_2, li_3, li_4, li_5, li_6, li_7, li_8, li_9, li_10, li_11, li_12, li_15, li_16, li_18, li_22, li_23, li_24, li_28, li_31, li_32, li_33, li_40, li_52, li_53, li_63, li_64, li_85, li_86, li_96, li_99, li_100, li_127, li_128, li_200, li_201, li_384, li_768, li_1023, li_5376, li_6144, fX7_stroke, e2, n2]); try rfl)
