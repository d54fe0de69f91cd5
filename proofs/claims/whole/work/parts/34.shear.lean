/-! shear -/
theorem c_slides {M : zMem} {a : Nat} {s : Int} (ha : a < 2) (h1 : -16 ≤ s) (h2 : s ≤ 16) {N : Nat} (hN : N ≤ 32) : zlp (zu2 (fX6_shear_L37 (iI a) (iI s) (iI N))) zfu (iI 0, M) = some (iI N, zwa M 59 (fun y => if 0 ≤ y ∧ y < 0 + N then iI (shf a s (y - 0)) else M 59 y)) := by
  refine lp_wr N 0 59 (fun y => iI (shf a s y)) M (by omega) (fun i hi Mi eMi => ?_) (fun Mi eMi => ?_)
  · show fX6_shear_L37 (iI a) (iI s) (iI N) (iI i) Mi = _
    unfold fX6_shear_L37
    rw [fle_n (by omega) (by omega) (by omega), (sh_at ha h1 h2 (by omega)).1, zb1_eq, zc_in (by omega) (by omega) (by omega), zn_eq, iI_natN (by omega), li_1, iI_add, show 0 + i = i by omega]; rfl
  · show fX6_shear_L37 (iI a) (iI s) (iI N) (iI N) Mi = _
    unfold fX6_shear_L37
    rw [fle_p (by omega) (by omega) (by omega)]
theorem r_goes0 {M : zMem} {w : Nat} {P : Nat → Nat → Bool} (hP : rPg M w P) {s : Int} (h1 : -16 ≤ s) (h2 : s ≤ 16) {k r : Nat} (hk : k < w) (hr : r < 32) : fX7_goesTo (iI 0) (iI s) (iI k) (iI r) M = some (iI (if 0 ≤ (r : Int) - shf 0 s k ∧ (r : Int) - shf 0 s k < 32 then 32 * (k : Int) + ((r : Int) - shf 0 s k) else -9)) := by
  have hw := hP.2.1
  have e := sh_at (a := 0) (k := k) (s := s) (by omega) h1 h2 (by omega)
  rw [show iI ((0 : Nat) : Int) = iI 0 from rfl] at e
  unfold fX7_goesTo
  rw [zj_eq, li_1, li_0, feq_n (by omega) (by omega) (by omega)]
  dsimp only
  rw [zj_eq, feq_p (by omega)]
  dsimp only
  unfold fX7_sheared
  rw [li_0, zj_eq, feq_p (by omega), e.2.1, zb1_eq, zb1_eq, iI_sub, r_col1 hP (by omega) (by omega), zb1_eq, zj_eq, feq_n (by omega) (by omega) (by omega)]
  by_cases q : 0 ≤ (r : Int) - shf 0 s k ∧ (r : Int) - shf 0 s k < 32
  · rw [if_pos q, r_isRow1 q.1 q.2, zb1_eq, feq_n (by omega) (by omega) (by omega), li_32, iI_mul, iI_add]
  · rw [if_neg q, r_isRow0 q (by omega) (by omega), zb1_eq, feq_p (by omega)]; rfl
theorem r_goes1 {M : zMem} {w : Nat} {P : Nat → Nat → Bool} (hP : rPg M w P) {s : Int} (h1 : -16 ≤ s) (h2 : s ≤ 16) {k r : Nat} (hk : k < w) (hr : r < 32) : fX7_goesTo (iI 1) (iI s) (iI k) (iI r) M = some (iI (if 0 ≤ (k : Int) - shf 1 s r ∧ (k : Int) - shf 1 s r < w then 32 * ((k : Int) - shf 1 s r) + (r : Int) else -9)) := by
  have hw := hP.2.1
  have e := sh_at (a := 1) (k := r) (s := s) (by omega) h1 h2 (by omega)
  rw [show iI ((1 : Nat) : Int) = iI 1 from rfl] at e
  unfold fX7_goesTo
  rw [zj_eq, li_1, li_0, feq_p (by omega)]
  unfold fX7_sheared
  rw [li_0, zj_eq, feq_n (by omega) (by omega) (by omega), e.2.1, zb1_eq, zb1_eq, iI_sub]
  dsimp only
  rw [zj_eq, feq_n (by omega) (by omega) (by omega), feq_p (by omega)]
  dsimp only
  by_cases q : 0 ≤ (k : Int) - shf 1 s r ∧ (k : Int) - shf 1 s r < w
  · rw [if_pos q, r_col1 hP q.1 q.2, zb1_eq, zj_eq, feq_n (by omega) (by omega) (by omega), r_isRow1 (by omega) (by omega), zb1_eq, feq_n (by omega) (by omega) (by omega), li_32, iI_mul, iI_add]
  · rw [if_neg q, r_col0 hP q (by omega) (by omega), zb1_eq, zj_eq, feq_p (by omega)]; rfl
theorem mv_go {Ms : zMem} {w n x N : Nat} {P P' : Nat → Nat → Bool} {cls : Option (Int32 × zMem)} {ok : Prop} {rf : zMem → Option (Int32 × zMem)} (h1 : cPg Ms w P) (h2 : rPg Ms w P) (hn : n ≤ 8) (hx : x < 8) (m2 : Ms 60 10 = iI n) (m4 : ∀ i, i < n → kPg Ms w (5 + (x + 7 - i) % 8) (768 * (n - 1 - i))) (hR : Rl Ms)
    (hc : (ok → ∃ M1, cls = some (iI N, M1) ∧ cDone Ms M1 w P' n x) ∧ (¬ ok → ∃ M1, cls = some (iI (-3), M1) ∧ ∀ c k, c ≠ 3 → M1 c k = Ms c k))
    (hr : ∀ M1, rPg M1 w P → M1 60 10 = iI n → (∀ c k, 60 ≤ c → M1 c k = Ms c k) → (ok → ∃ M2, rf M1 = some (iI N, M2) ∧ rDone M1 M2 w P P' n) ∧ (¬ ok → ∃ M2, rf M1 = some (iI (-3), M2) ∧ Ag M1 M2)) : ∃ o M1 M2, cls = some (o, M1) ∧ rf M1 = some (o, M2) ∧ Rl M2 := by
  by_cases hok : ok
  · obtain ⟨M1, e1, hd⟩ := hc.1 hok
    have g60 : ∀ c k, 60 ≤ c → M1 c k = Ms c k := fun c k h => hd.2.2.2.2.2 c k (by omega)
    have g1 : rPg M1 w P := rPg_eq h2 (g60 _ _ (by omega)) (fun k => g60 _ _ (by omega))
    obtain ⟨M2, e2, hq⟩ := (hr M1 g1 (by rw [g60 _ _ (by omega)]; exact m2) g60).1 hok
    exact ⟨_, M1, M2, e1, e2, Rl_move h1 hn hx m4 hR.2.1 hR.2.2 hd hq⟩
  · obtain ⟨M1, e1, hd⟩ := hc.2 hok
    have gA : Ag Ms M1 := fun c k h => hd c k (by intro e; rw [e] at h; simp [relv] at h)
    obtain ⟨M2, e2, hq⟩ := (hr M1 (rPg_ag h2 gA) (by rw [gA _ _ (by decide)]; exact m2) (fun c k h => hd c k (by omega))).2 hok
    exact ⟨_, M1, M2, e1, e2, Rl_ag (Rl_ag hR gA) hq⟩
theorem kPg_ag {M M' : zMem} {w x n i : Nat} (ha : Ag M M') (h : kPg M w (5 + (x + 7 - i) % 8) (768 * (n - 1 - i))) : kPg M' w (5 + (x + 7 - i) % 8) (768 * (n - 1 - i)) := by
  obtain ⟨Q, q1, q2, q3⟩ := h
  exact ⟨Q, fun k hk r hr => by rw [ha _ _ (by simp [relv]; omega)]; exact q1 k hk r hr, fun k hk r hr => by rw [ha _ _ (by simp [relv])]; exact q2 k hk r hr, q3⟩
theorem Ag_69 {M M' : zMem} (h : ∀ c k, c ≠ 69 → M' c k = M c k) : Ag M M' := fun c k hk => h c k (by intro e; rw [e] at hk; simp [relv] at hk)
theorem Ag_59 {M M' : zMem} (h : ∀ c k, c ≠ 59 → M' c k = M c k) : Ag M M' := fun c k hk => h c k (by intro e; rw [e] at hk; simp [relv] at hk)
theorem st_shear {M : zMem} (h : Rl M) (p q : Int32) : ∃ o M1 M2, fX6_shear p q M = some (o, M1) ∧ fX7_shear p q M1 = some (o, M2) ∧ Rl M2 := by
  obtain ⟨a, a1, a2, rfl⟩ := iI_ex p
  obtain ⟨s, s1, s2, rfl⟩ := iI_ex q
  by_cases ha : 0 ≤ a ∧ a < 2
  · by_cases hs : -16 ≤ s ∧ s ≤ 16
    · have hR := h
      obtain ⟨⟨w, P, h1, h2, n, x, hn, hx, m1, m2, m3, m4⟩, h4, h5⟩ := h
      have hw := h1.2.1
      rcases (show a = 0 ∨ a = 1 by omega) with rfl | rfl
      · obtain ⟨Ms, eMs⟩ : ∃ Ms, Ms = zwa M 59 (fun y => if 0 ≤ y ∧ y < 0 + w then iI (shf 0 s (y - 0)) else M 59 y) := ⟨_, rfl⟩
        have gS : Ag M Ms := Ag_59 (fun c k hc => by rw [eMs]; exact zwa_o hc)
        have hcls : fX6_shear (iI 0) (iI s) M = zb2 (fX4_slideColumns Ms) (fun r35 M36 => some (r35, M36)) := by
          have e := c_slides (M := M) (a := 0) (s := s) (by omega) hs.1 hs.2 (N := w) (by omega)
          rw [show iI ((0 : Nat) : Int) = iI 0 from rfl, ← eMs] at e
          unfold fX6_shear fX4_width
          rw [c_isAxis1 ha.1 ha.2, zb1_eq, if_neg (by decide), c_isShear1 hs.1 hs.2, zb1_eq, if_neg (by decide), zj_eq, li_0, feq_p (by omega), zb1_eq, h1.2.2.1]
          dsimp only
          rw [e, zb1_eq]
          dsimp only [zu2]
          rw [zj_eq, feq_p (by omega)]
        have hL := col_link (P := P) (w := w) (u := shf 0 s) hw h1.2.2.2.2
        rw [hcls]
        refine mv_go (Ms := Ms) (P' := colP P w (shf 0 s)) (N := colN P (shf 0 s) w) (ok := colOk P (shf 0 s)) (cPg_ag h1 gS) (rPg_ag h2 gS) hn hx (by rw [gS _ _ (by decide)]; exact m2) (fun i hi => kPg_ag gS (m4 i hi)) (Rl_ag hR gS) ?_ ?_
        · have hS := c_cols (M := Ms) (u := shf 0 s) (cPg_ag h1 gS) hn hx (by rw [gS _ _ (by decide)]; exact m1) (by rw [gS _ _ (by decide)]; exact m3) (fun k hk => by
            have := sh_at (a := 0) (k := k) (s := s) (by omega) hs.1 hs.2 (by omega)
            exact ⟨by rw [eMs, zwa_s, if_pos (by omega)]; rfl, this.2.2.1, this.2.2.2⟩)
          exact ⟨fun ok => by
            obtain ⟨M1, e1, hd⟩ := hS.1 ok
            exact ⟨M1, by rw [e1, zb2_eq], hd⟩, fun ok => by
            obtain ⟨M1, e1, hd⟩ := hS.2 ok
            exact ⟨M1, by rw [e1, zb2_eq], hd⟩⟩
        · intro M1 g1 g10 _
          have href : fX7_shear (iI 0) (iI s) M1 = zb2 (fX7_moveAll (iI 0) (iI s) M1) (fun r M => some (r, M)) := by
            unfold fX7_shear
            rw [r_isAxis1 ha.1 ha.2, zb1_eq, zj_eq, if_neg (by decide), r_isShear1 hs.1 hs.2, zb1_eq, if_neg (by decide)]
          have hM := r_moveAll (M := M1) (a := iI 0) (s := iI s) (T := TC (shf 0 s)) (P' := colP P w (shf 0 s)) g1 hn g10 (fun N hN y hy _ => by
            refine ⟨r_goes0 (rPg_eq g1 (hN _ _ (by omega)) (fun k => hN _ _ (by omega))) hs.1 hs.2 (by omega) (by omega), ?_⟩
            unfold TC
            split <;> omega) (fun k r h => by unfold colP at h; simp only [Bool.and_eq_true, decide_eq_true_eq] at h; exact ⟨h.1, h.2.1⟩) hL.2.2
          rw [href]
          exact ⟨fun ok => by
            obtain ⟨M2, e2, hd⟩ := hM.1 (hL.1.mp ok)
            exact ⟨M2, by rw [e2, zb2_eq, hL.2.1 ok], hd⟩, fun ok => by
            obtain ⟨M2, e2, hd⟩ := hM.2 (fun z => ok (hL.1.mpr z))
            exact ⟨M2, by rw [e2, zb2_eq], Ag_69 hd⟩⟩
      · obtain ⟨Ms, eMs⟩ : ∃ Ms, Ms = zwa M 59 (fun y => if 0 ≤ y ∧ y < 0 + 32 then iI (shf 1 s (y - 0)) else M 59 y) := ⟨_, rfl⟩
        have gS : Ag M Ms := Ag_59 (fun c k hc => by rw [eMs]; exact zwa_o hc)
        have hcls : fX6_shear (iI 1) (iI s) M = zb2 (fX4_slideRows Ms) (fun r35 M36 => some (r35, M36)) := by
          have e := c_slides (M := M) (a := 1) (s := s) (by omega) hs.1 hs.2 (N := 32) (by omega)
          rw [show iI ((1 : Nat) : Int) = iI 1 from rfl, ← eMs, show iI ((32 : Nat) : Int) = iI 32 from rfl] at e
          unfold fX6_shear fX4_width
          rw [c_isAxis1 ha.1 ha.2, zb1_eq, if_neg (by decide), c_isShear1 hs.1 hs.2, zb1_eq, if_neg (by decide), zj_eq, li_0, feq_n (by omega) (by omega) (by omega), li_32]
          dsimp only
          rw [e, zb1_eq]
          dsimp only [zu2]
          rw [zj_eq, feq_n (by omega) (by omega) (by omega)]
        have hL := row_link (P := P) (w := w) (l := shf 1 s) hw h1.2.2.2.2
        rw [hcls]
        refine mv_go (Ms := Ms) (P' := rowP P w (shf 1 s)) (N := rowN P (shf 1 s) w 32) (ok := rowOk P w (shf 1 s)) (cPg_ag h1 gS) (rPg_ag h2 gS) hn hx (by rw [gS _ _ (by decide)]; exact m2) (fun i hi => kPg_ag gS (m4 i hi)) (Rl_ag hR gS) ?_ ?_
        · have hS := c_rows (M := Ms) (l := shf 1 s) (cPg_ag h1 gS) hn hx (by rw [gS _ _ (by decide)]; exact m1) (by rw [gS _ _ (by decide)]; exact m3) (fun k hk => by
            have := sh_at (a := 1) (k := k) (s := s) (by omega) hs.1 hs.2 (by omega)
            exact ⟨by rw [eMs, zwa_s, if_pos (by omega)]; rfl, this.2.2.1, this.2.2.2⟩)
          exact ⟨fun ok => by
            obtain ⟨M1, e1, hd⟩ := hS.1 ok
            exact ⟨M1, by rw [e1, zb2_eq], hd⟩, fun ok => by
            obtain ⟨M1, e1, hd⟩ := hS.2 ok
            exact ⟨M1, by rw [e1, zb2_eq], hd⟩⟩
        · intro M1 g1 g10 _
          have href : fX7_shear (iI 1) (iI s) M1 = zb2 (fX7_moveAll (iI 1) (iI s) M1) (fun r M => some (r, M)) := by
            unfold fX7_shear
            rw [r_isAxis1 ha.1 ha.2, zb1_eq, zj_eq, if_neg (by decide), r_isShear1 hs.1 hs.2, zb1_eq, if_neg (by decide)]
          have hM := r_moveAll (M := M1) (a := iI 1) (s := iI s) (T := TR w (shf 1 s)) (P' := rowP P w (shf 1 s)) g1 hn g10 (fun N hN y hy _ => by
            refine ⟨r_goes1 (rPg_eq g1 (hN _ _ (by omega)) (fun k => hN _ _ (by omega))) hs.1 hs.2 (by omega) (by omega), ?_⟩
            unfold TR
            split <;> omega) (fun k r h => by unfold rowP at h; simp only [Bool.and_eq_true, decide_eq_true_eq] at h; exact ⟨h.1, h.2.1⟩) hL.2.2
          rw [href]
          exact ⟨fun ok => by
            obtain ⟨M2, e2, hd⟩ := hM.1 (hL.1.mp ok)
            exact ⟨M2, by rw [e2, zb2_eq, hL.2.1 ok], hd⟩, fun ok => by
            obtain ⟨M2, e2, hd⟩ := hM.2 (fun z => ok (hL.1.mpr z))
            exact ⟨M2, by rw [e2, zb2_eq], Ag_69 hd⟩⟩
    · exact ⟨iI (-2), M, M, by ((simp (disch := omega) only [zn_eq, zj_eq, zb1_eq, zb2_eq, zb3_eq, zbr_l, zbr_r, zc_in, iI_add, iI_sub, iI_mul, iI_neg, iI_lt, iI_le, iI_eq, zwr_zwr, zwa_zwa, zwr_s, zwr_o, zwr_O, zwr_k, zwa_s, zwa_S, zwa_o, zwa_O, upd_s, upd_o, if_true, if_false, if_pos, if_neg, iI_natN, iI_nat, Int.toNat_natCast, c_isRow1, c_isRow0, c_isCard1, c_isCard0, r_within1, r_within0, r_isRow1, r_isRow0, r_isCard1, r_isCard0, c_isAxis1, c_isAxis0, c_isShear1, c_isShear0, r_isAxis1, r_isAxis0, r_isShear1, r_isShear0, zc_cp, li_0, li_1, li_2, li_3, li_4, li_5, li_6, li_7, li_8, li_9, li_10, li_11, li_12, li_15, li_16, li_18, li_22, li_23, li_24, li_28, li_31, li_32, li_33, li_40, li_52, li_53, li_63, li_64, li_85, li_86, li_96, li_99, li_100, li_127, li_128, li_200, li_201, li_384, li_768, li_1023, li_5376, li_6144, fX6_shear]); try rfl), by ((simp (disch := omega) only [zn_eq, zj_eq, zb1_eq, zb2_eq, zb3_eq, zbr_l, zbr_r, zc_in, iI_add, iI_sub, iI_mul, iI_neg, iI_lt, iI_le, iI_eq, zwr_zwr, zwa_zwa, zwr_s, zwr_o, zwr_O, zwr_k, zwa_s, zwa_S, zwa_o, zwa_O, upd_s, upd_o, if_true, if_false, if_pos, if_neg, iI_natN, iI_nat, Int.toNat_natCast, c_isRow1, c_isRow0, c_isCard1, c_isCard0, r_within1, r_within0, r_isRow1, r_isRow0, r_isCard1, r_isCard0, c_isAxis1, c_isAxis0, c_isShear1, c_isShear0, r_isAxis1, r_isAxis0, r_isShear1, r_isShear0, zc_cp, li_0, li_1, li_2, li_3, li_4, li_5, li_6, li_7, li_8, li_9, li_10, li_11, li_12, li_15, li_16, li_18, li_22, li_23, li_24, li_28, li_31, li_32, li_33, li_40, li_52, li_53, li_63, li_64, li_85, li_86, li_96, li_99, li_100, li_127, li_128, li_200, li_201, li_384, li_768, li_1023, li_5376, li_6144, fX7_shear]); try rfl), h⟩
  · exact ⟨iI (-2), M, M, by ((simp (disch := omega) only [zn_eq, zj_eq, zb1_eq, zb2_eq, zb3_eq, zbr_l, zbr_r, zc_in, iI_add, iI_sub, iI_mul, iI_neg, iI_lt, iI_le, iI_eq, zwr_zwr, zwa_zwa, zwr_s, zwr_o, zwr_O, zwr_k, zwa_s, zwa_S, zwa_o, zwa_O, upd_s, upd_o, if_true, if_false, if_pos, if_neg, iI_natN, iI_nat, Int.toNat_natCast, c_isRow1, c_isRow0, c_isCard1, c_isCard0, r_within1, r_within0, r_isRow1, r_isRow0, r_isCard1, r_isCard0, c_isAxis1, c_isAxis0, c_isShear1, c_isShear0, r_isAxis1, r_isAxis0, r_isShear1, r_isShear0, zc_cp, li_0, li_1, li_2, li_3, li_4, li_5, li_6, li_7, li_8, li_9, li_10, li_11, li_12, li_15, li_16, li_18, li_22, li_23, li_24, li_28, li_31, li_32, li_33, li_40, li_52, li_53, li_63, li_64, li_85, li_86, li_96, li_99, li_100, li_127, li_128, li_200, li_201, li_384, li_768, li_1023, li_5376, li_6144, fX6_shear]); try rfl), by ((simp (disch := omega) only [zn_eq, zj_eq, zb1_eq, zb2_eq, zb3_eq, zbr_l, zbr_r, zc_in, iI_add, iI_sub, iI_mul, iI_neg, iI_lt, iI_le, iI_eq, zwr_zwr, zwa_zwa, zwr_s, zwr_o, zwr_O, zwr_k, zwa_s, zwa_S, zwa_o, zwa_O, upd_s, upd_o, if_true, if_false, if_pos, if_neg, iI_natN, iI_nat, Int.toNat_natCast, c_isRow1, c_isRow0, c_isCard1, c_isCard0, r_within1, r_within0, r_isRow1, r_isRow0, r_isCard1, r_isCard0, c_isAxis1, c_isAxis0, c_isShear1, c_isShear0, r_isAxis1, r_isAxis0, r_isShear1, r_isShear0, zc_cp, li_0, li_1, li_2, li_3, li_4, li_5, li_6, li_7, li_8, li_9, li_10, li_11, li_12, li_15, li_16, li_18, li_22, li_23, li_24, li_28, li_31, li_32, li_33, li_40, li_52, li_53, li_63, li_64, li_85, li_86, li_96, li_99, li_100, li_127, li_128, li_200, li_201, li_384, li_768, li_1023, li_5376, li_6144, fX7_shear]); try rfl), h⟩
