/-! a move of the class: rows -/
def rowP (P : Nat → Nat → Bool) (w : Nat) (l : Nat → Int) : Nat → Nat → Bool := fun k r => decide (k < w) && (decide (r < 32) && (decide (0 ≤ (k : Int) + l r) && P ((k : Int) + l r).toNat r))
def rowOk (P : Nat → Nat → Bool) (w : Nat) (l : Nat → Int) : Prop := ∀ k r, P k r = true → 0 ≤ (k : Int) - l r ∧ (k : Int) - l r < w
def rowC (P : Nat → Nat → Bool) (l : Nat → Int) (w r : Nat) : Nat := fb_ct (fun k => P k r && decide (¬ l r = 0)) w
/-- the bits of 'fresh' when rows ahead of r and in row r columns ahead of i are done -/
def frB (P : Nat → Nat → Bool) (l : Nat → Int) (r i k r' : Nat) : Bool := (decide (r' < r) || (decide (r' = r) && decide ((k : Int) + l r' < i))) && (decide (0 ≤ (k : Int) + l r') && P ((k : Int) + l r').toNat r')
theorem c_rowin {M0 : zMem} {w : Nat} {P : Nat → Nat → Bool} {l : Nat → Int} (hP : cPg M0 w P) {r : Nat} (hr : r < 32) (hl : M0 59 r = iI (l r) ∧ -31 ≤ l r ∧ l r ≤ 31) {M : zMem} {x : Int} (h0 : ∀ c k, c ≠ 3 → M c k = M0 c k) (hb : ∀ k, k < 24 → ∀ r', r' < 32 → bt (M 3 k) r' = frB P l r 0 k r') :
    ∃ b, zlp (zu3 (fX4_slideRows_L27 (iI r))) zfu (iI 0, iI x, M) = some b ∧ ((∃ M', b = .inl (iI w, iI (x + rowC P l w r), M') ∧ (∀ c k, c ≠ 3 → M' c k = M0 c k) ∧ (∀ k, k < 24 → ∀ r', r' < 32 → bt (M' 3 k) r' = frB P l (r + 1) 0 k r') ∧ ∀ k, P k r = true → 0 ≤ (k : Int) - l r ∧ (k : Int) - l r < w) ∨ (∃ M', b = .inr (iI (-3), M') ∧ (∀ c k, c ≠ 3 → M' c k = M0 c k) ∧ ∃ k, P k r = true ∧ ¬ (0 ≤ (k : Int) - l r ∧ (k : Int) - l r < w))) := by
  have hw := hP.2.1
  refine zlp_inv (fun i a => ∃ M', a = (iI (i : Int), iI (x + rowC P l i r), M') ∧ (∀ c k, c ≠ 3 → M' c k = M0 c k) ∧ (∀ k, k < 24 → ∀ r', r' < 32 → bt (M' 3 k) r' = frB P l r i k r') ∧ ∀ k, k < i → P k r = true → 0 ≤ (k : Int) - l r ∧ (k : Int) - l r < w) _ w (by omega) ⟨M, by show _ = (iI 0, iI (x + ((0 : Nat) : Int)), M); rw [show x + ((0 : Nat) : Int) = x by omega], h0, hb, fun k hk => absurd hk (by omega)⟩ ?_ ?_
  · rintro i a hi ⟨M', rfl, g0, g1, g2⟩
    have gP : cPg M' w P := cPg_eq hP (g0 _ _ (by omega)) (fun k => g0 _ _ (by omega))
    have gl : M' 59 r = iI (l r) := by rw [g0 _ _ (by omega)]; exact hl.1
    have e1 : rowC P l (i + 1) r = rowC P l i r + (if (P i r && decide (¬ l r = 0)) = true then 1 else 0) := rfl
    have eL : zu3 (fX4_slideRows_L27 (iI r)) (iI (i : Int), iI (x + rowC P l i r), M') = fX4_slideRows_L27 (iI r) (iI i) (iI (x + rowC P l i r)) M' := rfl
    rw [eL]
    unfold fX4_slideRows_L27
    rw [gP.2.2.1, fle_n (by omega) (by omega) (by omega), c_inkedN gP (by omega) (by omega), zb1_eq]
    cases hp : P i r with
    | false =>
      refine Or.inl ⟨_, by rw [show b2 false = iI 0 from rfl, li_0, feq_p (by omega), li_1, iI_add], M', ?_, g0, fun k hk r' hr' => ?_, fun k hk hq => ?_⟩
      · rw [e1, hp]; rfl
      · rw [g1 k hk r' hr']
        unfold frB
        by_cases z : r' = r ∧ (k : Int) + l r' = i
        · have : P ((k : Int) + l r').toNat r' = false := by rw [z.1, show ((k : Int) + l r).toNat = i by rw [← z.1]; omega]; exact hp
          rw [this]; simp
        · congr 2
          by_cases z1 : r' = r
          · rw [decide_eq_true z1, Bool.true_and, Bool.true_and]
            apply decide_eq_decide.mpr
            omega
          · rw [decide_eq_false z1, Bool.false_and, Bool.false_and]
      · by_cases z : k = i
        · subst z; rw [hp] at hq; cases hq
        · exact g2 k (by omega) hq
    | true =>
      rw [show b2 true = iI 1 from rfl, li_0, feq_n (by omega) (by omega) (by omega), zc_in (by omega) (by omega) (by omega), iI_natN (by omega), gl, iI_sub, zn_eq]
      by_cases ok : 0 ≤ (i : Int) - l r ∧ (i : Int) - l r < w
      · left
        rw [c_col1 gP ok.1 ok.2, zb1_eq, feq_n (by omega) (by omega) (by omega), zc_in (by omega) (by omega) (by omega), zc_in (by omega) (by omega) (by omega), iI_nat (by omega) (by omega), zn_eq, zc_in (by omega) (by omega) (by omega), zwr_o (by omega), gl]
        refine ⟨_, by rw [zn_eq, li_1, iI_add], zwr M' 3 ((i : Int) - l r).toNat (drw (M' 3 ((i : Int) - l r).toNat) r true), ?_, fun c k hc => by rw [zwr_o hc]; exact g0 c k hc, fun k hk r' hr' => ?_, fun k hk hq => ?_⟩
        · rw [e1, hp, Bool.true_and]
          congr 2
          by_cases z : l r = 0
          · rw [feq_p (by omega), iI_add, decide_eq_false (by simp [z]), Int.add_zero]; rfl
          · rw [feq_n (by omega) (by omega) (by omega), iI_add, decide_eq_true z]; congr 1
            show x + (rowC P l i r : Int) + 1 = x + ((rowC P l i r + 1 : Nat) : Int)
            omega
        · by_cases z : k = ((i : Int) - l r).toNat
          · rw [z, zwr_s, bt_drw hr hr']
            have hg := g1 _ (show ((i : Int) - l r).toNat < 24 by omega) r' hr'
            by_cases z2 : r' = r
            · rw [if_pos z2]
              unfold frB
              rw [decide_eq_true z2, z2, decide_eq_true (p := ((((i : Int) - l r).toNat : Nat) : Int) + l r < ((i + 1 : Nat) : Int)) (by omega), decide_eq_true (p := 0 ≤ ((((i : Int) - l r).toNat : Nat) : Int) + l r) (by omega), show (((((i : Int) - l r).toNat : Nat) : Int) + l r).toNat = i by omega, hp]
              simp
            · rw [if_neg z2, hg]
              unfold frB
              rw [decide_eq_false z2, Bool.false_and, Bool.false_and]
          · rw [show zwr M' 3 ((i : Int) - l r).toNat (drw (M' 3 ((i : Int) - l r).toNat) r true) 3 k = M' 3 k from zwr_k z, g1 k hk r' hr']
            unfold frB
            congr 2
            by_cases z1 : r' = r
            · rw [decide_eq_true z1, Bool.true_and, Bool.true_and]
              apply decide_eq_decide.mpr
              rw [z1]
              omega
            · rw [decide_eq_false z1, Bool.false_and, Bool.false_and]
        · by_cases z : k = i
          · subst z; exact ok
          · exact g2 k (by omega) hq
      · right
        rw [c_col0 gP ok (by omega) (by omega), zb1_eq, feq_p (by omega)]
        exact ⟨_, rfl, Or.inr ⟨M', rfl, g0, i, hp, ok⟩⟩
  · rintro a ⟨M', rfl, g0, g1, g2⟩
    have gP : cPg M' w P := cPg_eq hP (g0 _ _ (by omega)) (fun k => g0 _ _ (by omega))
    refine ⟨.inl (iI w, iI (x + rowC P l w r), M'), ?_, Or.inl ⟨M', rfl, g0, fun k hk r' hr' => ?_, fun k hq => g2 k (hP.2.2.2.2 k r hq).1 hq⟩⟩
    · show fX4_slideRows_L27 (iI r) (iI w) (iI (x + rowC P l w r)) M' = _
      unfold fX4_slideRows_L27
      rw [gP.2.2.1, if_pos (Int32.le_refl _)]
    · rw [g1 k hk r' hr']
      unfold frB
      cases hq : P ((k : Int) + l r').toNat r' with
      | false => simp
      | true =>
        have := (hP.2.2.2.2 _ _ hq).1
        by_cases z0 : 0 ≤ (k : Int) + l r'
        · rw [decide_eq_true z0, Bool.true_and]
          congr 1
          by_cases z1 : r' < r
          · rw [decide_eq_true z1, decide_eq_true (p := r' < r + 1) (by omega)]; simp
          · by_cases z2 : r' = r
            · rw [decide_eq_true z2, decide_eq_true (p := (k : Int) + l r' < w) (by omega), decide_eq_true (p := r' < r + 1) (by omega)]; simp
            · rw [decide_eq_false z1, decide_eq_false z2, decide_eq_false (p := r' < r + 1) (by omega)]
              by_cases z3 : r' = r + 1
              · rw [decide_eq_true z3, decide_eq_false (p := (k : Int) + l r' < ((0 : Nat) : Int)) (by omega)]; rfl
              · rw [decide_eq_false z3]; rfl
        · rw [decide_eq_false z0]; simp
def rowN (P : Nat → Nat → Bool) (l : Nat → Int) (w r : Nat) : Nat := fb_sm (rowC P l w) r
theorem c_rows {M : zMem} {w n x : Nat} {P : Nat → Nat → Bool} {l : Nat → Int} (hP : cPg M w P) (hn : n ≤ 8) (hx : x < 8) (h4 : M 1 4 = iI n) (h5 : M 1 5 = iI x) (hl : ∀ r, r < 32 → M 59 r = iI (l r) ∧ -31 ≤ l r ∧ l r ≤ 31) :
    (rowOk P w l → ∃ M1, fX4_slideRows M = some (iI (rowN P l w 32), M1) ∧ cDone M M1 w (rowP P w l) n x) ∧ (¬ rowOk P w l → ∃ M1, fX4_slideRows M = some (iI (-3), M1) ∧ ∀ c k, c ≠ 3 → M1 c k = M c k) := by
  have hw := hP.2.1
  obtain ⟨M2, eM2⟩ : ∃ M2, M2 = zwa M 3 (fun j => if j < 24 then 0 else M 3 j) := ⟨_, rfl⟩
  have hloop : ∃ b, zlp (zu3 fX4_slideRows_L12) zfu (iI 0, iI 0, M2) = some b ∧ ((∃ M', b = .inl (iI 32, iI (rowN P l w 32), M') ∧ (∀ c k, c ≠ 3 → M' c k = M c k) ∧ (∀ k, k < 24 → ∀ r', r' < 32 → bt (M' 3 k) r' = frB P l 32 0 k r') ∧ rowOk P w l) ∨ (∃ M', b = .inr (iI (-3), M') ∧ (∀ c k, c ≠ 3 → M' c k = M c k) ∧ ¬ rowOk P w l)) := by
    refine zlp_inv (fun r a => ∃ M', a = (iI (r : Int), iI (rowN P l w r), M') ∧ (∀ c k, c ≠ 3 → M' c k = M c k) ∧ (∀ k, k < 24 → ∀ r', r' < 32 → bt (M' 3 k) r' = frB P l r 0 k r') ∧ ∀ r', r' < r → ∀ k, P k r' = true → 0 ≤ (k : Int) - l r' ∧ (k : Int) - l r' < w) _ 32 (by omega) ⟨M2, rfl, fun c k hc => by rw [eM2, zwa_o hc], fun k hk r' hr' => ?_, fun r' h => absurd h (by omega)⟩ ?_ ?_
    · rw [eM2, zwa_s, if_pos hk, b_0]
      unfold frB
      rw [decide_eq_false (p := r' < 0) (by omega), Bool.false_or]
      by_cases z : 0 ≤ (k : Int) + l r'
      · rw [decide_eq_false (p := (k : Int) + l r' < ((0 : Nat) : Int)) (by omega), Bool.and_false, Bool.false_and]
      · rw [decide_eq_false z]; simp
    · rintro r a hr ⟨M', rfl, g0, g1, g2⟩
      have gP : cPg M' w P := cPg_eq hP (g0 _ _ (by omega)) (fun k => g0 _ _ (by omega))
      obtain ⟨b, hb, hq⟩ := c_rowin (M0 := M') gP hr (by rw [g0 _ _ (by omega)]; exact hl r hr) (M := M') (x := (rowN P l w r : Int)) (fun _ _ _ => rfl) g1
      have eL : zu3 fX4_slideRows_L12 (iI (r : Int), iI (rowN P l w r), M') = zbr (some b) (zu3 (fun (x38 : Int32) (x39 : Int32) (M40 : zMem) => some (.inl (iI (r : Int) + 1, x39, M40)))) (fun (q : Int32 × zMem) => some (.inr (.inr q))) := by
        show fX4_slideRows_L12 (iI (r : Int)) (iI (rowN P l w r)) M' = _
        unfold fX4_slideRows_L12
        rw [li_32, fle_n (by omega) (by omega) (by omega), fle_n (by omega) (by omega) (by omega), li_0, hb]
      rcases hq with ⟨M3, rfl, q0, q1, q2⟩ | ⟨M3, rfl, q0, k, q1, q2⟩
      · left
        refine ⟨(iI ((r + 1 : Nat) : Int), iI (rowN P l w (r + 1)), M3), ?_, M3, rfl, fun c k hc => by rw [q0 c k hc, g0 c k hc], q1, fun r' hr' k hk => ?_⟩
        · rw [eL, zbr_l, li_1, iI_add]; rfl
        · by_cases z : r' = r
          · subst z; exact q2 k hk
          · exact g2 r' (by omega) k hk
      · right
        refine ⟨.inr (iI (-3), M3), ?_, Or.inr ⟨M3, rfl, fun c k hc => by rw [q0 c k hc, g0 c k hc], fun h => q2 (h k r q1)⟩⟩
        rw [eL, zbr_r]
    · rintro a ⟨M', rfl, g0, g1, g2⟩
      refine ⟨.inl (iI 32, iI (rowN P l w 32), M'), ?_, Or.inl ⟨M', rfl, g0, g1, fun k r hp => g2 r (hP.2.2.2.2 k r hp).2 k hp⟩⟩
      show fX4_slideRows_L12 (iI ((32 : Nat) : Int)) (iI (rowN P l w 32)) M' = _
      unfold fX4_slideRows_L12
      rw [li_32, fle_p (by omega) (by omega) (by omega)]; rfl
  obtain ⟨b, hb, hq⟩ := hloop
  have eS : fX4_slideRows M = zbr (some b) (zu3 (fun (x44 : Int32) (x45 : Int32) (M46 : zMem) => zb1 (fX4_finishMove M46) (fun (M48 : zMem) => some (x45, M48)))) (fun (r : Int32 × zMem) => some r) := by
    unfold fX4_slideRows
    rw [f_fill (by omega), zb1_eq, ← eM2, li_0, hb]
  constructor
  · intro hok
    rcases hq with ⟨Mw, rfl, g0, g1, -⟩ | ⟨_, -, -, hno⟩
    · have hfin := c_finish (M := Mw) (w := w) (n := n) (x := x) hw hn hx (by rw [g0 _ _ (by omega)]; exact hP.2.2.1) (by rw [g0 _ _ (by omega)]; exact h4) (by rw [g0 _ _ (by omega)]; exact h5)
      refine ⟨zwr (zwr (zwa (zwa Mw (5 + x) (fun k => if k < 24 then Mw 2 k else Mw (5 + x) k)) 2 (fun k => if k < w then Mw 3 k else Mw 2 k)) 1 5 (iI ((x + 1) % 8 : Nat))) 1 4 (iI (if n < 8 then n + 1 else 8 : Nat)), ?_, ?_⟩
      · rw [eS, zbr_l]
        show zb1 (fX4_finishMove Mw) _ = _
        rw [hfin, zb1_eq]
      · refine ⟨⟨hP.1, hw, ?_, fun k hk r hr => ?_, fun k r h => ?_⟩, fun k hk => ?_, ?_, ?_, fun c k q1 q2 q3 => ?_, fun c k q => ?_⟩
        · simp (disch := omega) only [zn_eq, zj_eq, zb1_eq, zb2_eq, zb3_eq, zbr_l, zbr_r, zc_in, iI_add, iI_sub, iI_mul, iI_neg, iI_lt, iI_le, iI_eq, zwr_zwr, zwa_zwa, zwr_s, zwr_o, zwr_O, zwr_k, zwa_s, zwa_S, zwa_o, zwa_O, upd_s, upd_o, if_true, if_false, if_pos, if_neg, iI_natN, iI_nat, Int.toNat_natCast, c_isRow1, c_isRow0, c_isCard1, c_isCard0, r_within1, r_within0, r_isRow1, r_isRow0, r_isCard1, r_isCard0, c_isAxis1, c_isAxis0, c_isShear1, c_isShear0, r_isAxis1, r_isAxis0, r_isShear1, r_isShear0, zc_cp, li_0, li_1, li_2, li_3, li_4, li_5, li_6, li_7, li_8, li_9, li_10, li_11, li_12, li_15, li_16, li_18, li_22, li_23, li_24, li_28, li_31, li_32, li_33, li_40, li_52, li_53, li_63, li_64, li_85, li_86, li_96, li_99, li_100, li_127, li_128, li_200, li_201, li_384, li_768, li_1023, li_5376, li_6144, g0]; exact hP.2.2.1
        · simp (disch := omega) only [zn_eq, zj_eq, zb1_eq, zb2_eq, zb3_eq, zbr_l, zbr_r, zc_in, iI_add, iI_sub, iI_mul, iI_neg, iI_lt, iI_le, iI_eq, zwr_zwr, zwa_zwa, zwr_s, zwr_o, zwr_O, zwr_k, zwa_s, zwa_S, zwa_o, zwa_O, upd_s, upd_o, if_true, if_false, if_pos, if_neg, iI_natN, iI_nat, Int.toNat_natCast, c_isRow1, c_isRow0, c_isCard1, c_isCard0, r_within1, r_within0, r_isRow1, r_isRow0, r_isCard1, r_isCard0, c_isAxis1, c_isAxis0, c_isShear1, c_isShear0, r_isAxis1, r_isAxis0, r_isShear1, r_isShear0, zc_cp, li_0, li_1, li_2, li_3, li_4, li_5, li_6, li_7, li_8, li_9, li_10, li_11, li_12, li_15, li_16, li_18, li_22, li_23, li_24, li_28, li_31, li_32, li_33, li_40, li_52, li_53, li_63, li_64, li_85, li_86, li_96, li_99, li_100, li_127, li_128, li_200, li_201, li_384, li_768, li_1023, li_5376, li_6144]
          unfold rowP
          rw [decide_eq_true hr, Bool.true_and]
          by_cases kw : k < w
          · rw [if_pos kw, g1 k hk r hr, decide_eq_true kw, Bool.true_and]
            unfold frB
            rw [decide_eq_true hr, Bool.true_or, Bool.true_and]
          · rw [if_neg kw, decide_eq_false kw, Bool.false_and, g0 _ _ (by omega), hP.2.2.2.1 k hk r hr]
            cases hq : P k r with
            | false => rfl
            | true => exact absurd (hP.2.2.2.2 _ _ hq).1 kw
        · unfold rowP at h
          simp only [Bool.and_eq_true, decide_eq_true_eq] at h
          exact ⟨h.1, h.2.1⟩
        · ((simp (disch := omega) only [zn_eq, zj_eq, zb1_eq, zb2_eq, zb3_eq, zbr_l, zbr_r, zc_in, iI_add, iI_sub, iI_mul, iI_neg, iI_lt, iI_le, iI_eq, zwr_zwr, zwa_zwa, zwr_s, zwr_o, zwr_O, zwr_k, zwa_s, zwa_S, zwa_o, zwa_O, upd_s, upd_o, if_true, if_false, if_pos, if_neg, iI_natN, iI_nat, Int.toNat_natCast, c_isRow1, c_isRow0, c_isCard1, c_isCard0, r_within1, r_within0, r_isRow1, r_isRow0, r_isCard1, r_isCard0, c_isAxis1, c_isAxis0, c_isShear1, c_isShear0, r_isAxis1, r_isAxis0, r_isShear1, r_isShear0, zc_cp, li_0, li_1, li_2, li_3, li_4, li_5, li_6, li_7, li_8, li_9, li_10, li_11, li_12, li_15, li_16, li_18, li_22, li_23, li_24, li_28, li_31, li_32, li_33, li_40, li_52, li_53, li_63, li_64, li_85, li_86, li_96, li_99, li_100, li_127, li_128, li_200, li_201, li_384, li_768, li_1023, li_5376, li_6144, g0]); try rfl)
        · ((simp (disch := omega) only [zn_eq, zj_eq, zb1_eq, zb2_eq, zb3_eq, zbr_l, zbr_r, zc_in, iI_add, iI_sub, iI_mul, iI_neg, iI_lt, iI_le, iI_eq, zwr_zwr, zwa_zwa, zwr_s, zwr_o, zwr_O, zwr_k, zwa_s, zwa_S, zwa_o, zwa_O, upd_s, upd_o, if_true, if_false, if_pos, if_neg, iI_natN, iI_nat, Int.toNat_natCast, c_isRow1, c_isRow0, c_isCard1, c_isCard0, r_within1, r_within0, r_isRow1, r_isRow0, r_isCard1, r_isCard0, c_isAxis1, c_isAxis0, c_isShear1, c_isShear0, r_isAxis1, r_isAxis0, r_isShear1, r_isShear0, zc_cp, li_0, li_1, li_2, li_3, li_4, li_5, li_6, li_7, li_8, li_9, li_10, li_11, li_12, li_15, li_16, li_18, li_22, li_23, li_24, li_28, li_31, li_32, li_33, li_40, li_52, li_53, li_63, li_64, li_85, li_86, li_96, li_99, li_100, li_127, li_128, li_200, li_201, li_384, li_768, li_1023, li_5376, li_6144]); try rfl)
        · ((simp (disch := omega) only [zn_eq, zj_eq, zb1_eq, zb2_eq, zb3_eq, zbr_l, zbr_r, zc_in, iI_add, iI_sub, iI_mul, iI_neg, iI_lt, iI_le, iI_eq, zwr_zwr, zwa_zwa, zwr_s, zwr_o, zwr_O, zwr_k, zwa_s, zwa_S, zwa_o, zwa_O, upd_s, upd_o, if_true, if_false, if_pos, if_neg, iI_natN, iI_nat, Int.toNat_natCast, c_isRow1, c_isRow0, c_isCard1, c_isCard0, r_within1, r_within0, r_isRow1, r_isRow0, r_isCard1, r_isCard0, c_isAxis1, c_isAxis0, c_isShear1, c_isShear0, r_isAxis1, r_isAxis0, r_isShear1, r_isShear0, zc_cp, li_0, li_1, li_2, li_3, li_4, li_5, li_6, li_7, li_8, li_9, li_10, li_11, li_12, li_15, li_16, li_18, li_22, li_23, li_24, li_28, li_31, li_32, li_33, li_40, li_52, li_53, li_63, li_64, li_85, li_86, li_96, li_99, li_100, li_127, li_128, li_200, li_201, li_384, li_768, li_1023, li_5376, li_6144]); try rfl)
        · ((simp (disch := omega) only [zn_eq, zj_eq, zb1_eq, zb2_eq, zb3_eq, zbr_l, zbr_r, zc_in, iI_add, iI_sub, iI_mul, iI_neg, iI_lt, iI_le, iI_eq, zwr_zwr, zwa_zwa, zwr_s, zwr_o, zwr_O, zwr_k, zwa_s, zwa_S, zwa_o, zwa_O, upd_s, upd_o, if_true, if_false, if_pos, if_neg, iI_natN, iI_nat, Int.toNat_natCast, c_isRow1, c_isRow0, c_isCard1, c_isCard0, r_within1, r_within0, r_isRow1, r_isRow0, r_isCard1, r_isCard0, c_isAxis1, c_isAxis0, c_isShear1, c_isShear0, r_isAxis1, r_isAxis0, r_isShear1, r_isShear0, zc_cp, li_0, li_1, li_2, li_3, li_4, li_5, li_6, li_7, li_8, li_9, li_10, li_11, li_12, li_15, li_16, li_18, li_22, li_23, li_24, li_28, li_31, li_32, li_33, li_40, li_52, li_53, li_63, li_64, li_85, li_86, li_96, li_99, li_100, li_127, li_128, li_200, li_201, li_384, li_768, li_1023, li_5376, li_6144, g0]); try rfl)
        · ((simp (disch := omega) only [zn_eq, zj_eq, zb1_eq, zb2_eq, zb3_eq, zbr_l, zbr_r, zc_in, iI_add, iI_sub, iI_mul, iI_neg, iI_lt, iI_le, iI_eq, zwr_zwr, zwa_zwa, zwr_s, zwr_o, zwr_O, zwr_k, zwa_s, zwa_S, zwa_o, zwa_O, upd_s, upd_o, if_true, if_false, if_pos, if_neg, iI_natN, iI_nat, Int.toNat_natCast, c_isRow1, c_isRow0, c_isCard1, c_isCard0, r_within1, r_within0, r_isRow1, r_isRow0, r_isCard1, r_isCard0, c_isAxis1, c_isAxis0, c_isShear1, c_isShear0, r_isAxis1, r_isAxis0, r_isShear1, r_isShear0, zc_cp, li_0, li_1, li_2, li_3, li_4, li_5, li_6, li_7, li_8, li_9, li_10, li_11, li_12, li_15, li_16, li_18, li_22, li_23, li_24, li_28, li_31, li_32, li_33, li_40, li_52, li_53, li_63, li_64, li_85, li_86, li_96, li_99, li_100, li_127, li_128, li_200, li_201, li_384, li_768, li_1023, li_5376, li_6144, g0]); try rfl)
    · exact absurd hok hno
  · intro hbad
    rcases hq with ⟨_, -, -, -, hok⟩ | ⟨Mw, rfl, g0, -⟩
    · exact absurd hok hbad
    · exact ⟨Mw, by rw [eS, zbr_r], g0⟩
/-! both sides of a move -/
def TC (u : Nat → Int) (x : Nat) : Int := if 0 ≤ ((x % 32 : Nat) : Int) - u (x / 32) ∧ ((x % 32 : Nat) : Int) - u (x / 32) < 32 then 32 * ((x / 32 : Nat) : Int) + (((x % 32 : Nat) : Int) - u (x / 32)) else -9
def TR (w : Nat) (l : Nat → Int) (x : Nat) : Int := if 0 ≤ ((x / 32 : Nat) : Int) - l (x % 32) ∧ ((x / 32 : Nat) : Int) - l (x % 32) < w then 32 * (((x / 32 : Nat) : Int) - l (x % 32)) + ((x % 32 : Nat) : Int) else -9
theorem col_link {P : Nat → Nat → Bool} {w : Nat} {u : Nat → Int} (hw : w ≤ 24) (hPw : ∀ k r, P k r = true → k < w ∧ r < 32) : (colOk P u ↔ ∀ x, x < 32 * w → inkX P x = true → ¬ TC u x = -9) ∧ (colOk P u → colN P u w = mvN P (TC u) (32 * w)) ∧ ∀ k, k < 24 → ∀ r, r < 32 → colP P w u k r = mvA P (TC u) (32 * w) (32 * k + r) := by
  refine ⟨⟨fun h x hx hi => ?_, fun h k r hp => ?_⟩, fun hok => ?_, fun k hk r hr => ?_⟩
  · have := h _ _ hi
    unfold TC
    rw [if_pos this]
    omega
  · obtain ⟨h1, h2⟩ := hPw k r hp
    have := h (32 * k + r) (by omega) (by unfold inkX; rw [show (32 * k + r) / 32 = k by omega, show (32 * k + r) % 32 = r by omega]; exact hp)
    unfold TC at this
    rw [show (32 * k + r) / 32 = k by omega, show (32 * k + r) % 32 = r by omega] at this
    apply Classical.byContradiction
    intro q
    rw [if_neg q] at this
    exact this rfl
  · unfold mvN
    have e : fb_ct (fun x => inkX P x && decide (¬ TC u x = x)) (32 * w) = fb_ct (fun x => (fun k r => P k r && decide (¬ u k = 0)) (x / 32) (x % 32)) (32 * w) := by
      apply fb_ct_cong
      intro x hx
      show (inkX P x && _) = (P (x / 32) (x % 32) && _)
      unfold inkX
      cases hp : P (x / 32) (x % 32) with
      | false => rfl
      | true =>
        rw [Bool.true_and, Bool.true_and]
        apply decide_eq_decide.mpr
        have := hok _ _ hp
        unfold TC
        rw [if_pos this]
        omega
    rw [e, ct_grid (fun k r => P k r && decide (¬ u k = 0)) w]
    unfold colN inkN
    apply fb_sm_cong
    intro k hk
    by_cases z : u k = 0
    · rw [if_pos z]
      symm
      apply fb_ct_zero.mpr
      intro r hr
      dsimp only
      rw [decide_eq_false (by simp [z]), Bool.and_false]
    · rw [if_neg z]
      apply fb_ct_cong
      intro r hr
      dsimp only
      rw [decide_eq_true z, Bool.and_true]
  · apply Bool.eq_iff_iff.mpr
    unfold mvA
    rw [anyB_iff]
    unfold colP shB
    simp only [Bool.and_eq_true, decide_eq_true_eq]
    constructor
    · rintro ⟨h1, -, h2, h3⟩
      refine ⟨32 * k + ((r : Int) + u k).toNat, by omega, ?_, ?_⟩
      · unfold inkX
        rw [show (32 * k + ((r : Int) + u k).toNat) / 32 = k by omega, show (32 * k + ((r : Int) + u k).toNat) % 32 = ((r : Int) + u k).toNat by omega]
        exact h3
      · unfold TC
        rw [show (32 * k + ((r : Int) + u k).toNat) / 32 = k by omega, show (32 * k + ((r : Int) + u k).toNat) % 32 = ((r : Int) + u k).toNat by omega, if_pos (by omega)]
        omega
    · rintro ⟨x, hx, h1, h2⟩
      unfold inkX at h1
      unfold TC at h2
      by_cases q : 0 ≤ ((x % 32 : Nat) : Int) - u (x / 32) ∧ ((x % 32 : Nat) : Int) - u (x / 32) < 32
      · rw [if_pos q] at h2
        have ek : x / 32 = k := by omega
        rw [ek] at h1 h2 q
        refine ⟨by omega, hr, by omega, ?_⟩
        rw [show ((r : Int) + u k).toNat = x % 32 by omega]
        exact h1
      · rw [if_neg q] at h2
        omega
theorem sm_swap (f : Nat → Nat → Bool) (m : Nat) : ∀ n, fb_sm (fun r => fb_ct (fun k => f k r) n) m = fb_sm (fun k => fb_ct (fun r => f k r) m) n
  | 0 => by
    rw [show (fun r => fb_ct (fun k => f k r) 0) = (fun _ => 0) from rfl, fb_sm_const]; rfl
  | n + 1 => by
    rw [show (fun r => fb_ct (fun k => f k r) (n + 1)) = (fun r => fb_ct (fun k => f k r) n + (if f n r then 1 else 0)) from rfl, fb_sm_add, sm_swap f m n, fb_sm_succ]
    congr 1
    have : ∀ m, fb_sm (fun r => if f n r = true then 1 else 0) m = fb_ct (fun r => f n r) m := by
      intro m
      induction m with
      | zero => rfl
      | succ m ih => rw [fb_sm_succ, ih, fb_ct_succ]
    exact this m
theorem row_link {P : Nat → Nat → Bool} {w : Nat} {l : Nat → Int} (hw : w ≤ 24) (hPw : ∀ k r, P k r = true → k < w ∧ r < 32) : (rowOk P w l ↔ ∀ x, x < 32 * w → inkX P x = true → ¬ TR w l x = -9) ∧ (rowOk P w l → rowN P l w 32 = mvN P (TR w l) (32 * w)) ∧ ∀ k, k < 24 → ∀ r, r < 32 → rowP P w l k r = mvA P (TR w l) (32 * w) (32 * k + r) := by
  refine ⟨⟨fun h x hx hi => ?_, fun h k r hp => ?_⟩, fun hok => ?_, fun k hk r hr => ?_⟩
  · have := h _ _ hi
    unfold TR
    rw [if_pos this]
    omega
  · obtain ⟨h1, h2⟩ := hPw k r hp
    have := h (32 * k + r) (by omega) (by unfold inkX; rw [show (32 * k + r) / 32 = k by omega, show (32 * k + r) % 32 = r by omega]; exact hp)
    unfold TR at this
    rw [show (32 * k + r) / 32 = k by omega, show (32 * k + r) % 32 = r by omega] at this
    apply Classical.byContradiction
    intro q
    rw [if_neg q] at this
    exact this rfl
  · unfold mvN
    have e : fb_ct (fun x => inkX P x && decide (¬ TR w l x = x)) (32 * w) = fb_ct (fun x => (fun k r => P k r && decide (¬ l r = 0)) (x / 32) (x % 32)) (32 * w) := by
      apply fb_ct_cong
      intro x hx
      show (inkX P x && _) = (P (x / 32) (x % 32) && _)
      unfold inkX
      cases hp : P (x / 32) (x % 32) with
      | false => rfl
      | true =>
        rw [Bool.true_and, Bool.true_and]
        apply decide_eq_decide.mpr
        have := hok _ _ hp
        unfold TR
        rw [if_pos this]
        omega
    rw [e, ct_grid (fun k r => P k r && decide (¬ l r = 0)) w]
    exact sm_swap (fun k r => P k r && decide (¬ l r = 0)) 32 w
  · apply Bool.eq_iff_iff.mpr
    unfold mvA
    rw [anyB_iff]
    unfold rowP
    simp only [Bool.and_eq_true, decide_eq_true_eq]
    constructor
    · rintro ⟨h1, -, h2, h3⟩
      have := (hPw _ _ h3).1
      refine ⟨32 * ((k : Int) + l r).toNat + r, by omega, ?_, ?_⟩
      · unfold inkX
        rw [show (32 * ((k : Int) + l r).toNat + r) / 32 = ((k : Int) + l r).toNat by omega, show (32 * ((k : Int) + l r).toNat + r) % 32 = r by omega]
        exact h3
      · unfold TR
        rw [show (32 * ((k : Int) + l r).toNat + r) / 32 = ((k : Int) + l r).toNat by omega, show (32 * ((k : Int) + l r).toNat + r) % 32 = r by omega, if_pos (by omega)]
        omega
    · rintro ⟨x, hx, h1, h2⟩
      unfold inkX at h1
      unfold TR at h2
      by_cases q : 0 ≤ ((x / 32 : Nat) : Int) - l (x % 32) ∧ ((x / 32 : Nat) : Int) - l (x % 32) < w
      · rw [if_pos q] at h2
        have ek : x % 32 = r := by omega
        rw [ek] at h1 h2 q
        refine ⟨by omega, hr, by omega, ?_⟩
        rw [show ((k : Int) + l r).toNat = x / 32 by omega]
        exact h1
      · rw [if_neg q] at h2
        omega
