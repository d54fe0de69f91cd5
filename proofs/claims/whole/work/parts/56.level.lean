/-! foot, curl, level -/
theorem c_hasC1 {M : zMem} {w : Nat} {P : Nat → Nat → Bool} (hP : cPg M w P) {k : Nat} (hk : k < w) : fX4_hasColumn (iI k) M = some (iI 1) := by
  have := hP.2.1
  rw [c_hasColumn hP (k : Int) (by omega) (by omega), decide_eq_true (by omega), decide_eq_true (by omega)]; rfl
theorem c_hasC0 {M : zMem} {w : Nat} {P : Nat → Nat → Bool} (hP : cPg M w P) {z : Int} (h : ¬ (0 ≤ z ∧ z < w)) (z1 : -2147483648 ≤ z) (z2 : z ≤ 2147483647) : fX4_hasColumn (iI z) M = some (iI 0) := by
  rw [c_hasColumn hP z z1 z2]
  rcases (show z < 0 ∨ (w : Int) ≤ z by omega) with s | s
  · rw [decide_eq_false (by omega)]; rfl
  · rw [decide_eq_false (p := z < (w : Int)) (by omega), Bool.and_false]; rfl
theorem r_hasC1 {M : zMem} {w : Nat} {P : Nat → Nat → Bool} (hP : rPg M w P) {k : Nat} (hk : k < w) : fX7_isColumn (iI k) M = some (iI 1) := by
  have := hP.2.1
  rw [r_isColumn hP (k : Int) (by omega) (by omega), decide_eq_true (by omega), decide_eq_true (by omega)]; rfl
theorem r_hasC0 {M : zMem} {w : Nat} {P : Nat → Nat → Bool} (hP : rPg M w P) {z : Int} (h : ¬ (0 ≤ z ∧ z < w)) (z1 : -2147483648 ≤ z) (z2 : z ≤ 2147483647) : fX7_isColumn (iI z) M = some (iI 0) := by
  rw [r_isColumn hP z z1 z2]
  rcases (show z < 0 ∨ (w : Int) ≤ z by omega) with s | s
  · rw [decide_eq_false (by omega)]; rfl
  · rw [decide_eq_false (p := z < (w : Int)) (by omega), Bool.and_false]; rfl
theorem covers_0 {M : zMem} (p : Int32) (h : M 32 4 = iI ((0 : Nat) : Int)) : fX0_covers p M = some (iI 0) := by
  unfold fX0_covers
  rw [h, show iI ((0 : Nat) : Int) = 0 from rfl, Int32.add_zero]
  by_cases q : p < M 32 3
  · rw [if_pos q]; rfl
  · rw [if_neg q, if_pos]
    · rfl
    · rw [Int32.lt_iff_toInt_lt] at q; rw [Int32.le_iff_toInt_le]; omega
theorem st_foot {M : zMem} (h : Rl M) (p : Int32) : ∃ o M1 M2, fX6_foot p M = some (o, M1) ∧ fX7_foot p M1 = some (o, M2) ∧ Rl M2 := by
  obtain ⟨v, v1, v2, rfl⟩ := iI_ex p
  have hR := h
  obtain ⟨⟨w, P, h1, h2, -⟩, -⟩ := h
  have hw := h1.2.1
  by_cases hv : 0 ≤ v ∧ v < w
  · obtain ⟨k, rfl⟩ : ∃ n : Nat, v = n := ⟨v.toNat, by omega⟩
    obtain ⟨L, F, pt, M1, e1, t1, o1, hL, hF, hpt, M2, e2, t2, o2⟩ := st_base h1 h2
    have hR2 : Rl M2 := Rl_ag (Rl_ag hR (cBo_ag o1)) (rLo_ag o2)
    have a1 := c_hasC1 h1 (show k < w by omega)
    have a2 := r_hasC1 (rPg_ag h2 (cBo_ag o1)) (show k < w by omega)
    have n2 := t2.1
    rcases Nat.eq_zero_or_pos L with z | z
    · subst z
      refine ⟨iI (-9), M1, M2, ?_, ?_, hR2⟩
      · unfold fX6_foot
        rw [a1, zb1_eq, if_neg (by decide), e1, zb1_eq, covers_0 _ t1.1, zb1_eq, zj_eq, if_pos (by decide)]; rfl
      · unfold fX7_foot
        rw [a2, zb1_eq, if_neg (by decide), e2, zb1_eq, zj_eq, n2, if_pos (by decide)]; rfl
    · have hF' := hF z
      have n1 := t1.1
      have f1 := (t1.2.2 z).1
      have g1 := (t2.2 z).1
      by_cases q : F ≤ k ∧ k < F + L
      · obtain ⟨i, rfl⟩ : ∃ i, k = F + i := ⟨k - F, by omega⟩
        have c1 := c_footRow (i := i) (show F + L ≤ 24 by omega) (by omega) t1
        have c2 := (t2.2 z).2 i (by omega)
        refine ⟨iI (pt i), M1, M2, ?_, ?_, hR2⟩
        · unfold fX6_foot
          rw [a1, zb1_eq, if_neg (by decide), e1, zb1_eq]
          unfold fX0_covers
          rw [zb1_eq, zj_eq, n1, f1, iI_add, flt_n (by omega) (by omega) (by omega), fle_n (by omega) (by omega) (by omega), if_neg (by decide), c1, zb1_eq]
        · unfold fX7_foot
          rw [a2, zb1_eq, if_neg (by decide), e2, zb1_eq, zj_eq, n2, li_0, fle_n (by omega) (by omega) (by omega), g1, iI_add, li_1, iI_sub, r_within1 (by omega) (by omega) (by omega) (by omega), zb1_eq, if_neg (by decide), zc_in (by omega) (by omega) (by omega), iI_natN (by omega), c2]
      · refine ⟨iI (-9), M1, M2, ?_, ?_, hR2⟩
        · unfold fX6_foot
          rw [a1, zb1_eq, if_neg (by decide), e1, zb1_eq]
          unfold fX0_covers
          rw [zb1_eq, zj_eq, n1, f1, iI_add]
          rcases (show k < F ∨ F + L ≤ k by omega) with g | g
          · rw [flt_p (by omega) (by omega) (by omega), if_pos rfl]; rfl
          · rw [flt_n (by omega) (by omega) (by omega), fle_p (by omega) (by omega) (by omega), if_pos rfl]; rfl
        · unfold fX7_foot
          rw [a2, zb1_eq, if_neg (by decide), e2, zb1_eq, zj_eq, n2, li_0, fle_n (by omega) (by omega) (by omega), g1, iI_add, li_1, iI_sub, r_within0 (v := (k : Int)) (a := (F : Int)) (b := (F : Int) + (L : Int) - 1) (by omega) (by omega) (by omega) (by omega), zb1_eq, if_pos rfl]; rfl
  · have a1 := c_hasC0 h1 hv v1 v2
    have a2 := r_hasC0 h2 hv v1 v2
    refine ⟨iI (-1), M, M, ?_, ?_, hR⟩
    · unfold fX6_foot; rw [a1, zb1_eq, if_pos (by decide)]; rfl
    · unfold fX7_foot; rw [a2, zb1_eq, if_pos (by decide)]; rfl
theorem st_curl {M : zMem} (h : Rl M) (p : Int32) : ∃ o M1 M2, fX6_curl p M = some (o, M1) ∧ fX7_curl p M1 = some (o, M2) ∧ Rl M2 := by
  obtain ⟨v, v1, v2, rfl⟩ := iI_ex p
  have hR := h
  obtain ⟨⟨w, P, h1, h2, -⟩, -⟩ := h
  have hw := h1.2.1
  by_cases hv : 0 ≤ v ∧ v < w
  · obtain ⟨k, rfl⟩ : ∃ n : Nat, v = n := ⟨v.toNat, by omega⟩
    obtain ⟨L, F, pt, M1, e1, t1, o1, hL, hF, hpt, M2, e2, t2, o2⟩ := st_base h1 h2
    have hR2 : Rl M2 := Rl_ag (Rl_ag hR (cBo_ag o1)) (rLo_ag o2)
    have a1 := c_hasC1 h1 (show k < w by omega)
    have a2 := r_hasC1 (rPg_ag h2 (cBo_ag o1)) (show k < w by omega)
    have n1 := t1.1
    have n2 := t2.1
    rcases Nat.eq_zero_or_pos L with z | z
    · subst z
      refine ⟨iI (-3), M1, M2, ?_, ?_, hR2⟩
      · unfold fX6_curl fX0_length
        rw [a1, zb1_eq, if_neg (by decide), e1, zb1_eq, zb1_eq, n1, zj_eq, if_pos (by decide)]; rfl
      · unfold fX7_curl
        rw [a2, zb1_eq, if_neg (by decide), e2, zb1_eq, n2, if_pos (by decide)]; rfl
    · have hF' := hF z
      obtain ⟨M3, e3, t3, o3⟩ := r_curls (rPg_lo (rPg_ag h2 (cBo_ag o1)) o2) z hF' hpt t2
      have c1 := c_bend z (show F + L ≤ 24 by omega) hpt t1 (show k < 100 by omega)
      refine ⟨iI (crl L F pt k + 100), M1, M3, ?_, ?_, Rl_ag hR2 (Ag_76 o3)⟩
      · unfold fX6_curl fX0_length
        rw [a1, zb1_eq, if_neg (by decide), e1, zb1_eq, zb1_eq, n1, zj_eq, li_0, feq_n (by omega) (by omega) (by omega), c1, zb1_eq, li_100, iI_add]
      · unfold fX7_curl fX7_curlOf
        rw [a2, zb1_eq, if_neg (by decide), e2, zb1_eq, n2, li_0, feq_n (by omega) (by omega) (by omega), e3, zb1_eq, zc_in (by omega) (by omega) (by omega), iI_natN (by omega), t3 k (by omega), zb1_eq, li_100, iI_add]
  · have a1 := c_hasC0 h1 hv v1 v2
    have a2 := r_hasC0 h2 hv v1 v2
    refine ⟨iI (-1), M, M, ?_, ?_, hR⟩
    · unfold fX6_curl; rw [a1, zb1_eq, if_pos (by decide)]; rfl
    · unfold fX7_curl; rw [a2, zb1_eq, if_pos (by decide)]; rfl
theorem r_goes2 {M : zMem} {w : Nat} {P : Nat → Nat → Bool} (hP : rPg M w P) {u : Nat → Int} {s : Int32} {k r : Nat} (hk : k < w) (hr : r < 32) (hu : M 76 k = iI (u k)) (u1 : -31 ≤ u k) (u2 : u k ≤ 31) : fX7_goesTo (iI 2) s (iI k) (iI r) M = some (iI (if 0 ≤ (r : Int) - u k ∧ (r : Int) - u k < 32 then 32 * (k : Int) + ((r : Int) - u k) else -9)) := by
  have hw := hP.2.1
  unfold fX7_goesTo fX7_curlOf
  rw [zj_eq, li_1, li_0, feq_n (by omega) (by omega) (by omega)]
  dsimp only
  rw [zj_eq, feq_n (by omega) (by omega) (by omega), feq_n (by omega) (by omega) (by omega), zc_in (by omega) (by omega) (by omega), iI_natN (by omega), hu, zb1_eq, iI_sub]
  dsimp only
  rw [r_col1 hP (by omega) (by omega), zb1_eq, zj_eq, feq_n (by omega) (by omega) (by omega)]
  by_cases q : 0 ≤ (r : Int) - u k ∧ (r : Int) - u k < 32
  · rw [if_pos q, r_isRow1 q.1 q.2, zb1_eq, feq_n (by omega) (by omega) (by omega), li_32, iI_mul, iI_add]
  · rw [if_neg q, r_isRow0 q (by omega) (by omega), zb1_eq, feq_p (by omega)]; rfl
theorem rDone_ag {M1 M4 M2 : zMem} {w n : Nat} {P P' : Nat → Nat → Bool} (h : rDone M4 M2 w P P' n) (ho : ∀ c k, c < 60 ∨ (c = 60 ∧ k = 0) ∨ (62 ≤ c ∧ c ≤ 64) ∨ c = 68 → M4 c k = M1 c k) : rDone M1 M2 w P P' n := by
  obtain ⟨h1, h2, h3, h4, h5⟩ := h
  refine ⟨h1, h2, fun y hy => ?_, ?_, fun c k hc => ?_⟩
  · rw [h3 y hy, ho 68 _ (by omega), ho 68 _ (by omega)]
  · rw [h4, ho _ _ (by omega)]
  · rw [h5 c k hc, ho c k (by omega)]
theorem st_level {M : zMem} (h : Rl M) : ∃ o M1 M2, fX6_level M = some (o, M1) ∧ fX7_level M1 = some (o, M2) ∧ Rl M2 := by
  have hR := h
  obtain ⟨⟨w, P, h1, h2, n, x, hn, hx, m1, m2, m3, m4⟩, h4, h5⟩ := h
  have hw := h1.2.1
  obtain ⟨M1, L, F, R, e1, p, hL, t1, o1⟩ := c_base h1
  have n1 := t1.1
  have gA := cBo_ag o1
  rcases Nat.eq_zero_or_pos L with z | z
  · subst z
    obtain ⟨M2, e2, t2, o2⟩ := r_base (rPg_ag h2 gA) p
    have n2 := t2.1
    refine ⟨iI (-3), M1, M2, ?_, ?_, Rl_ag (Rl_ag hR gA) (rLo_ag o2)⟩
    · unfold fX6_level fX0_length
      rw [e1, zb1_eq, zb1_eq, n1, if_pos (by decide)]; rfl
    · unfold fX7_level
      rw [e2, zb1_eq, n2, if_pos (by decide)]; rfl
  · have hF' := pk_w p z
    have hpt : ∀ i, i < L → 0 ≤ pth P w F R i ∧ pth P w F R i < 32 := fun i hi => ⟨(pth_ok h1.2.2.2.2 p z i hi).1, (pth_ok h1.2.2.2.2 p z i hi).2.1⟩
    obtain ⟨pt, ept⟩ : ∃ pt, pt = pth P w F R := ⟨_, rfl⟩
    rw [← ept] at hpt t1
    have hcb := crl_bd (F := F) z hpt
    obtain ⟨u, eu⟩ : ∃ u, u = crl L F pt := ⟨_, rfl⟩
    rw [← eu] at hcb
    obtain ⟨Ms, eMs⟩ : ∃ Ms, Ms = zwa M1 59 (fun y => if 0 ≤ y ∧ y < 0 + w then iI (u (y - 0)) else M1 59 y) := ⟨_, rfl⟩
    have gS : Ag M Ms := Ag_tr gA (Ag_59 (fun c k hc => by rw [eMs]; exact zwa_o hc))
    have hl := lp_wr (body := zu2 fX6_level_L26) w 0 59 (fun k => iI (u k)) M1 (by omega) (fun i hi Mi eMi => by
      have o9 : ∀ c k, c ≠ 59 → Mi c k = M1 c k := fun c k hc => by rw [eMi]; exact zwa_o hc
      have hb : cBl Mi L F pt := ⟨by rw [o9 _ _ (by decide)]; exact t1.1, by rw [o9 _ _ (by decide)]; exact t1.2.1, fun z => ⟨by rw [o9 _ _ (by decide)]; exact (t1.2.2 z).1, fun i hi => by rw [o9 _ _ (by decide)]; exact (t1.2.2 z).2 i hi⟩⟩
      show fX6_level_L26 (iI i) Mi = _
      unfold fX6_level_L26 fX4_width
      rw [zb1_eq, o9 _ _ (by decide), gA 1 3 (by decide), h1.2.2.1, fle_n (by omega) (by omega) (by omega), c_bend z (show F + L ≤ 24 by omega) hpt hb (by omega), zb1_eq, zc_in (by omega) (by omega) (by omega), zn_eq, iI_natN (by omega), li_1, iI_add, show 0 + i = i by omega, ← eu]; rfl) (fun Mi eMi => by
      have o9 : ∀ c k, c ≠ 59 → Mi c k = M1 c k := fun c k hc => by rw [eMi]; exact zwa_o hc
      show fX6_level_L26 (iI w) Mi = _
      unfold fX6_level_L26 fX4_width
      rw [zb1_eq, o9 _ _ (by decide), gA 1 3 (by decide), h1.2.2.1, fle_p (by omega) (by omega) (by omega)])
    rw [← eMs] at hl
    have hcls : fX6_level M = zb2 (fX4_slideColumns Ms) (fun r35 M36 => some (r35, M36)) := by
      unfold fX6_level fX0_length
      rw [e1, zb1_eq, zb1_eq, n1, li_0, feq_n (by omega) (by omega) (by omega), hl, zb1_eq]
    have hLk := col_link (P := P) (w := w) (u := u) hw h1.2.2.2.2
    rw [hcls]
    refine mv_go (Ms := Ms) (P' := colP P w u) (N := colN P u w) (ok := colOk P u) (cPg_ag h1 gS) (rPg_ag h2 gS) hn hx (by rw [gS _ _ (by decide)]; exact m2) (fun i hi => kPg_ag gS (m4 i hi)) (Rl_ag hR gS) ?_ ?_
    · have hS := c_cols (M := Ms) (u := u) (cPg_ag h1 gS) hn hx (by rw [gS _ _ (by decide)]; exact m1) (by rw [gS _ _ (by decide)]; exact m3) (fun k hk => ⟨by rw [eMs, zwa_s, if_pos (by omega)]; rfl, (hcb k).1, (hcb k).2⟩)
      exact ⟨fun ok => by
        obtain ⟨M1, e1, hd⟩ := hS.1 ok
        exact ⟨M1, by rw [e1, zb2_eq], hd⟩, fun ok => by
        obtain ⟨M1, e1, hd⟩ := hS.2 ok
        exact ⟨M1, by rw [e1, zb2_eq], hd⟩⟩
    · intro M1 g1 g10 _
      obtain ⟨M2, e2, t2, o2⟩ := r_base g1 p
      rw [← ept] at t2
      have n2 := t2.1
      have g2 := rPg_lo g1 o2
      obtain ⟨M3, e3, t3, o3⟩ := r_curls g2 z hF' hpt t2
      rw [← eu] at t3
      have g3 := rPg_ag g2 (Ag_76 o3)
      have href : fX7_level M1 = zb2 (fX7_moveAll (iI 2) (iI 0) M3) (fun r M => some (r, M)) := by
        unfold fX7_level
        rw [e2, zb1_eq, n2, li_0, feq_n (by omega) (by omega) (by omega), e3, zb1_eq, li_2]
      have g310 : M3 60 10 = iI n := by rw [o3 _ _ (by decide), o2 _ _ (by decide) (by decide) (by decide)]; exact g10
      have hM := r_moveAll (M := M3) (a := iI 2) (s := iI 0) (T := TC u) (P' := colP P w u) g3 hn g310 (fun N hN y hy _ => by
        refine ⟨r_goes2 (rPg_eq g3 (hN _ _ (by omega)) (fun k => hN _ _ (by omega))) (by omega) (by omega) (by rw [hN _ _ (by decide)]; exact t3 _ (by omega)) (hcb _).1 (hcb _).2, ?_⟩
        have := hcb (y / 32)
        unfold TC
        split <;> omega) (fun k r h => by unfold colP at h; simp only [Bool.and_eq_true, decide_eq_true_eq] at h; exact ⟨h.1, h.2.1⟩) hLk.2.2
      have g13 : Ag M1 M3 := Ag_tr (rLo_ag o2) (Ag_76 o3)
      rw [href]
      exact ⟨fun ok => by
        obtain ⟨M4, e4, hd⟩ := hM.1 (hLk.1.mp ok)
        exact ⟨M4, by rw [e4, zb2_eq, hLk.2.1 ok], rDone_ag hd (fun c k hc => by rw [o3 c k (by omega), o2 c k (by omega) (by omega) (by omega)])⟩, fun ok => by
        obtain ⟨M4, e4, hd⟩ := hM.2 (fun z => ok (hLk.1.mpr z))
        exact ⟨M4, by rw [e4, zb2_eq], Ag_tr g13 (Ag_69 hd)⟩⟩
