/-! a move of the reference -/
def anyB (p : Nat → Bool) : Nat → Bool
  | 0 => false
  | n + 1 => anyB p n || p n
theorem anyB_iff (p : Nat → Bool) : ∀ n, anyB p n = true ↔ ∃ x, x < n ∧ p x = true
  | 0 => by
    constructor
    · intro h; cases h
    · rintro ⟨x, h, -⟩; omega
  | n + 1 => by
    show (anyB p n || p n) = true ↔ _
    rw [Bool.or_eq_true, anyB_iff p n]
    constructor
    · rintro (⟨x, h1, h2⟩ | h)
      · exact ⟨x, by omega, h2⟩
      · exact ⟨n, by omega, h⟩
    · rintro ⟨x, h1, h2⟩
      by_cases e : x = n
      · subst e; exact Or.inr h2
      · exact Or.inl ⟨x, by omega, h2⟩
theorem iI_div {a d : Nat} (ha : a < 2147483648) (h0 : 0 < d) (hd : d < 2147483648) : iI (a : Int) / iI (d : Int) = iI ((a / d : Nat) : Int) := by
  rw [← nI_iI, ← nI_iI, ← nI_iI, pk_div (by omega) h0 (by omega)]
theorem iI_mod {a d : Nat} (ha : a < 2147483648) (h0 : 0 < d) (hd : d < 2147483648) : iI (a : Int) - iI (a : Int) / iI (d : Int) * iI (d : Int) = iI ((a % d : Nat) : Int) := by
  rw [← nI_iI, ← nI_iI, ← nI_iI, pk_rem (by omega) h0 (by omega)]
theorem r_then0 (M : zMem) : zlp (zu2 fX7_moveAll_L5) zfu (iI 0, M) = some (iI 768, zwa M 69 (fun y => if 0 ≤ y ∧ y < 0 + 768 then 0 else M 69 y)) := by
  refine lp_wr 768 0 69 (fun _ => 0) M (by omega) (fun i hi Mi eMi => ?_) (fun Mi eMi => ?_)
  · show fX7_moveAll_L5 (iI i) Mi = _
    unfold fX7_moveAll_L5
    rw [li_768, fle_n (by omega) (by omega) (by omega), zc_in (by omega) (by omega) (by omega), zn_eq, iI_natN (by omega), nar0, li_1, iI_add, show 0 + i = i by omega]; rfl
  · show fX7_moveAll_L5 (iI ((768 : Nat) : Int)) Mi = _
    unfold fX7_moveAll_L5
    rw [li_768, fle_p (by omega) (by omega) (by omega)]
def inkX (P : Nat → Nat → Bool) (x : Nat) : Bool := P (x / 32) (x % 32)
def mvN (P : Nat → Nat → Bool) (T : Nat → Int) (i : Nat) : Nat := fb_ct (fun x => inkX P x && decide (¬ T x = x)) i
def mvA (P : Nat → Nat → Bool) (T : Nat → Int) (i y : Nat) : Bool := anyB (fun x => inkX P x && decide (T x = y)) i
theorem r_main {M : zMem} {w : Nat} {P : Nat → Nat → Bool} {a s : Int32} {T : Nat → Int} (hP : rPg M w P) (h0 : ∀ y, y < 768 → M 69 y = 0)
    (hT : ∀ N : zMem, (∀ c k, c ≠ 69 → N c k = M c k) → ∀ x, x < 32 * w → inkX P x = true → fX7_goesTo a s (iI ((x / 32 : Nat) : Int)) (iI ((x % 32 : Nat) : Int)) N = some (iI (T x)) ∧ (T x = -9 ∨ (0 ≤ T x ∧ T x < 768))) :
    ((∀ x, x < 32 * w → inkX P x = true → ¬ T x = -9) → zlp (zu3 (fX7_moveAll_L30 a s)) zfu (iI 0, iI 0, M) = some (.inl (iI ((32 * w : Nat) : Int), iI (mvN P T (32 * w)), zwa M 69 (fun y => if y < 768 then b2 (mvA P T (32 * w) y) else M 69 y)))) ∧
    (¬ (∀ x, x < 32 * w → inkX P x = true → ¬ T x = -9) → ∃ f, zlp (zu3 (fX7_moveAll_L30 a s)) zfu (iI 0, iI 0, M) = some (.inr (iI (-3), zwa M 69 f))) := by
  have hw := hP.2.1
  have step : ∀ i, i < 32 * w → fX7_moveAll_L30 a s (iI i) (iI (mvN P T i)) (zwa M 69 (fun y => if y < 768 then b2 (mvA P T i y) else M 69 y)) = if inkX P i = true ∧ T i = -9 then some (.inr (.inr (iI (-3), zwa M 69 (fun y => if y < 768 then b2 (mvA P T i y) else M 69 y)))) else some (.inl (iI ((i + 1 : Nat) : Int), iI (mvN P T (i + 1)), zwa M 69 (fun y => if y < 768 then b2 (mvA P T (i + 1) y) else M 69 y))) := by
    intro i hi
    obtain ⟨Mi, eM⟩ : ∃ Mi, Mi = zwa M 69 (fun y => if y < 768 then b2 (mvA P T i y) else M 69 y) := ⟨_, rfl⟩
    rw [← eM]
    have c1 : Mi 60 1 = iI w := by rw [eM]; simp (disch := omega) only [zn_eq, zj_eq, zb1_eq, zb2_eq, zb3_eq, zbr_l, zbr_r, zc_in, iI_add, iI_sub, iI_mul, iI_neg, iI_lt, iI_le, iI_eq, zwr_zwr, zwa_zwa, zwr_s, zwr_o, zwr_O, zwr_k, zwa_s, zwa_S, zwa_o, zwa_O, upd_s, upd_o, if_true, if_false, if_pos, if_neg, iI_natN, iI_nat, Int.toNat_natCast, c_isRow1, c_isRow0, c_isCard1, c_isCard0, r_within1, r_within0, r_isRow1, r_isRow0, r_isCard1, r_isCard0, c_isAxis1, c_isAxis0, c_isShear1, c_isShear0, r_isAxis1, r_isAxis0, r_isShear1, r_isShear0, zc_cp, li_0, li_1, li_2, li_3, li_4, li_5, li_6, li_7, li_8, li_9, li_10, li_11, li_12, li_15, li_16, li_18, li_22, li_23, li_24, li_28, li_31, li_32, li_33, li_40, li_52, li_53, li_63, li_64, li_85, li_86, li_96, li_99, li_100, li_127, li_128, li_200, li_201, li_384, li_768, li_1023, li_5376, li_6144]; exact hP.2.2.1
    have c2 : Mi 61 i = b2 (inkX P i) := by rw [eM]; simp (disch := omega) only [zn_eq, zj_eq, zb1_eq, zb2_eq, zb3_eq, zbr_l, zbr_r, zc_in, iI_add, iI_sub, iI_mul, iI_neg, iI_lt, iI_le, iI_eq, zwr_zwr, zwa_zwa, zwr_s, zwr_o, zwr_O, zwr_k, zwa_s, zwa_S, zwa_o, zwa_O, upd_s, upd_o, if_true, if_false, if_pos, if_neg, iI_natN, iI_nat, Int.toNat_natCast, c_isRow1, c_isRow0, c_isCard1, c_isCard0, r_within1, r_within0, r_isRow1, r_isRow0, r_isCard1, r_isCard0, c_isAxis1, c_isAxis0, c_isShear1, c_isShear0, r_isAxis1, r_isAxis0, r_isShear1, r_isShear0, zc_cp, li_0, li_1, li_2, li_3, li_4, li_5, li_6, li_7, li_8, li_9, li_10, li_11, li_12, li_15, li_16, li_18, li_22, li_23, li_24, li_28, li_31, li_32, li_33, li_40, li_52, li_53, li_63, li_64, li_85, li_86, li_96, li_99, li_100, li_127, li_128, li_200, li_201, li_384, li_768, li_1023, li_5376, li_6144]; exact r_at hP (by omega)
    have c3 : ∀ c k, c ≠ 69 → Mi c k = M c k := by intro c k h; rw [eM]; ((simp (disch := omega) only [zn_eq, zj_eq, zb1_eq, zb2_eq, zb3_eq, zbr_l, zbr_r, zc_in, iI_add, iI_sub, iI_mul, iI_neg, iI_lt, iI_le, iI_eq, zwr_zwr, zwa_zwa, zwr_s, zwr_o, zwr_O, zwr_k, zwa_s, zwa_S, zwa_o, zwa_O, upd_s, upd_o, if_true, if_false, if_pos, if_neg, iI_natN, iI_nat, Int.toNat_natCast, c_isRow1, c_isRow0, c_isCard1, c_isCard0, r_within1, r_within0, r_isRow1, r_isRow0, r_isCard1, r_isCard0, c_isAxis1, c_isAxis0, c_isShear1, c_isShear0, r_isAxis1, r_isAxis0, r_isShear1, r_isShear0, zc_cp, li_0, li_1, li_2, li_3, li_4, li_5, li_6, li_7, li_8, li_9, li_10, li_11, li_12, li_15, li_16, li_18, li_22, li_23, li_24, li_28, li_31, li_32, li_33, li_40, li_52, li_53, li_63, li_64, li_85, li_86, li_96, li_99, li_100, li_127, li_128, li_200, li_201, li_384, li_768, li_1023, li_5376, li_6144]); try rfl)
    have e1 : mvN P T (i + 1) = mvN P T i + (if (inkX P i && decide (¬ T i = i)) = true then 1 else 0) := rfl
    have e2 : ∀ y, mvA P T (i + 1) y = (mvA P T i y || (inkX P i && decide (T i = y))) := fun y => rfl
    unfold fX7_moveAll_L30
    rw [c1, li_32, iI_mul, fle_n (by omega) (by omega) (by omega), zc_in (by omega) (by omega) (by omega), iI_natN (by omega), c2]
    cases hk : inkX P i with
    | false =>
      rw [show b2 false = iI 0 from rfl, li_0, feq_p (by omega), if_neg (by simp), e1, hk, li_1, iI_add]
      congr 4
      rw [eM]
      apply zwa_ext
      intro y
      rw [e2, hk, Bool.false_and, Bool.or_false]
    | true =>
      obtain ⟨g1, g2⟩ := hT Mi c3 i hi hk
      rw [show b2 true = iI 1 from rfl, li_0, feq_n (by omega) (by omega) (by omega), show iI 32 = iI ((32 : Nat) : Int) from rfl, iI_mod (by omega) (by omega) (by omega), iI_div (by omega) (by omega) (by omega), g1, zb1_eq]
      by_cases q : T i = -9
      · rw [show (-9 : Int32) = iI (-9) from rfl, feq_p (by omega), if_pos ⟨rfl, q⟩]; rfl
      · rw [show (-9 : Int32) = iI (-9) from rfl, feq_n (by omega) (by omega) (by omega), if_neg (show ¬ (true = true ∧ T i = -9) from fun z => q z.2), zc_in (by omega) (by omega) (by omega), zn_eq, zn_eq, nar1, iI_nat (by omega) (by omega), e1, hk]
        have e3 : zwr Mi 69 (T i).toNat 1 = zwa M 69 (fun y => if y < 768 then b2 (mvA P T (i + 1) y) else M 69 y) := by
          rw [eM, zwa_zwr]
          apply zwa_ext
          intro y
          unfold upd
          dsimp only
          rw [e2, hk, Bool.true_and]
          by_cases z : y = (T i).toNat
          · rw [if_pos z, if_pos (by omega), decide_eq_true (by omega), Bool.or_true]; rfl
          · rw [if_neg z]
            by_cases z2 : y < 768
            · rw [if_pos z2, if_pos z2, decide_eq_false (by omega), Bool.or_false]
            · rw [if_neg z2, if_neg z2]
        rw [e3, li_1, iI_add, Bool.true_and]
        by_cases z : T i = i
        · rw [if_pos (show iI (T i) = iI (i : Int) by rw [z]), iI_add, decide_eq_false (by simp [z])]; rfl
        · rw [feq_n (by omega) (by omega) (by omega), iI_add, decide_eq_true z]; rfl
  have start : ((iI 0 : Int32), (iI 0 : Int32), M) = (iI ((0 : Nat) : Int), iI (mvN P T 0), zwa M 69 (fun y => if y < 768 then b2 (mvA P T 0 y) else M 69 y)) := by
    rw [zwa_ext (g := M 69) (fun y => by
      show (if y < 768 then b2 false else M 69 y) = _
      by_cases z : y < 768
      · rw [if_pos z, h0 y z]; rfl
      · rw [if_neg z]), zwa_id]; rfl
  constructor
  · intro hok
    refine zlp_seq (S := fun i => (iI (i : Int), iI (mvN P T i), zwa M 69 (fun y => if y < 768 then b2 (mvA P T i y) else M 69 y))) _ (32 * w) (by omega) start (fun i hi => ?_) ?_
    · show fX7_moveAll_L30 a s _ _ _ = _
      rw [step i hi, if_neg (fun z => hok i hi z.1 z.2)]
    · show fX7_moveAll_L30 a s (iI ((32 * w : Nat) : Int)) _ _ = _
      unfold fX7_moveAll_L30
      dsimp only
      rw [if_pos (by rw [zwa_o (by omega), hP.2.2.1, li_32, iI_mul, iI_le (by omega) (by omega) (by omega) (by omega)]; omega)]
  · intro hbad
    have hex : ∃ i, i < 32 * w ∧ inkX P i = true ∧ T i = -9 := by
      apply Classical.byContradiction
      intro hne
      exact hbad (fun x hx hi ht => hne ⟨x, hx, hi, ht⟩)
    obtain ⟨i0, ⟨hi0, hb0⟩, hmin⟩ := pk_least _ hex
    refine ⟨fun y => if y < 768 then b2 (mvA P T i0 y) else M 69 y, ?_⟩
    refine zlp_seq (S := fun i => (iI (i : Int), iI (mvN P T i), zwa M 69 (fun y => if y < 768 then b2 (mvA P T i y) else M 69 y))) _ i0 (by omega) start (fun i hi => ?_) ?_
    · show fX7_moveAll_L30 a s _ _ _ = _
      rw [step i (by omega), if_neg (fun z => hmin i hi ⟨by omega, z⟩)]
    · show fX7_moveAll_L30 a s _ _ _ = _
      rw [step i0 hi0, if_pos hb0]
theorem r_kp52 {M : zMem} {m : Nat} {w : Nat} {P : Nat → Nat → Bool} (hP : rPg M w P) (hm : m < 8) (h : M 60 10 = iI m) : zlp (zu2 fX7_keeps_L52) zfu (iI 0, M) = some (iI 768, zwa M 68 (fun y => if 768 * m ≤ y ∧ y < 768 * m + 768 then b2 (inkX P (y - 768 * m)) else M 68 y)) := by
  refine lp_wr 768 (768 * m) 68 (fun y => b2 (inkX P y)) M (by omega) (fun i hi Mi eMi => ?_) (fun Mi eMi => ?_)
  · show fX7_keeps_L52 (iI i) Mi = _
    unfold fX7_keeps_L52
    have c1 : Mi 60 10 = iI m := by rw [eMi]; simp (disch := omega) only [zn_eq, zj_eq, zb1_eq, zb2_eq, zb3_eq, zbr_l, zbr_r, zc_in, iI_add, iI_sub, iI_mul, iI_neg, iI_lt, iI_le, iI_eq, zwr_zwr, zwa_zwa, zwr_s, zwr_o, zwr_O, zwr_k, zwa_s, zwa_S, zwa_o, zwa_O, upd_s, upd_o, if_true, if_false, if_pos, if_neg, iI_natN, iI_nat, Int.toNat_natCast, c_isRow1, c_isRow0, c_isCard1, c_isCard0, r_within1, r_within0, r_isRow1, r_isRow0, r_isCard1, r_isCard0, c_isAxis1, c_isAxis0, c_isShear1, c_isShear0, r_isAxis1, r_isAxis0, r_isShear1, r_isShear0, zc_cp, li_0, li_1, li_2, li_3, li_4, li_5, li_6, li_7, li_8, li_9, li_10, li_11, li_12, li_15, li_16, li_18, li_22, li_23, li_24, li_28, li_31, li_32, li_33, li_40, li_52, li_53, li_63, li_64, li_85, li_86, li_96, li_99, li_100, li_127, li_128, li_200, li_201, li_384, li_768, li_1023, li_5376, li_6144]; exact h
    have c2 : Mi 61 i = b2 (inkX P i) := by rw [eMi]; simp (disch := omega) only [zn_eq, zj_eq, zb1_eq, zb2_eq, zb3_eq, zbr_l, zbr_r, zc_in, iI_add, iI_sub, iI_mul, iI_neg, iI_lt, iI_le, iI_eq, zwr_zwr, zwa_zwa, zwr_s, zwr_o, zwr_O, zwr_k, zwa_s, zwa_S, zwa_o, zwa_O, upd_s, upd_o, if_true, if_false, if_pos, if_neg, iI_natN, iI_nat, Int.toNat_natCast, c_isRow1, c_isRow0, c_isCard1, c_isCard0, r_within1, r_within0, r_isRow1, r_isRow0, r_isCard1, r_isCard0, c_isAxis1, c_isAxis0, c_isShear1, c_isShear0, r_isAxis1, r_isAxis0, r_isShear1, r_isShear0, zc_cp, li_0, li_1, li_2, li_3, li_4, li_5, li_6, li_7, li_8, li_9, li_10, li_11, li_12, li_15, li_16, li_18, li_22, li_23, li_24, li_28, li_31, li_32, li_33, li_40, li_52, li_53, li_63, li_64, li_85, li_86, li_96, li_99, li_100, li_127, li_128, li_200, li_201, li_384, li_768, li_1023, li_5376, li_6144]; exact r_at hP hi
    rw [c1, li_768, fle_n (by omega) (by omega) (by omega), iI_mul, iI_add, zc_in (by omega) (by omega) (by omega), zc_in (by omega) (by omega) (by omega), iI_natN (by omega), iI_nat (by omega) (by omega), show ((768 : Int) * m + i).toNat = 768 * m + i by omega, c2, b2_nar, zn_eq, li_1, iI_add]; rfl
  · show fX7_keeps_L52 (iI ((768 : Nat) : Int)) Mi = _
    unfold fX7_keeps_L52
    rw [li_768, fle_p (by omega) (by omega) (by omega)]
theorem r_kp11 (M : zMem) : zlp (zu2 fX7_keeps_L11) zfu (iI 0, M) = some (iI 5376, zwa M 68 (fun y => if 0 ≤ y ∧ y < 0 + 5376 then vp_nar .boolean (M 68 (y - 0 + 768)) else M 68 y)) := by
  refine lp_wr 5376 0 68 (fun y => vp_nar .boolean (M 68 (y + 768))) M (by omega) (fun i hi Mi eMi => ?_) (fun Mi eMi => ?_)
  · show fX7_keeps_L11 (iI i) Mi = _
    unfold fX7_keeps_L11
    have c2 : Mi 68 (i + 768) = M 68 (i + 768) := by rw [eMi]; simp (disch := omega) only [zn_eq, zj_eq, zb1_eq, zb2_eq, zb3_eq, zbr_l, zbr_r, zc_in, iI_add, iI_sub, iI_mul, iI_neg, iI_lt, iI_le, iI_eq, zwr_zwr, zwa_zwa, zwr_s, zwr_o, zwr_O, zwr_k, zwa_s, zwa_S, zwa_o, zwa_O, upd_s, upd_o, if_true, if_false, if_pos, if_neg, iI_natN, iI_nat, Int.toNat_natCast, c_isRow1, c_isRow0, c_isCard1, c_isCard0, r_within1, r_within0, r_isRow1, r_isRow0, r_isCard1, r_isCard0, c_isAxis1, c_isAxis0, c_isShear1, c_isShear0, r_isAxis1, r_isAxis0, r_isShear1, r_isShear0, zc_cp, li_0, li_1, li_2, li_3, li_4, li_5, li_6, li_7, li_8, li_9, li_10, li_11, li_12, li_15, li_16, li_18, li_22, li_23, li_24, li_28, li_31, li_32, li_33, li_40, li_52, li_53, li_63, li_64, li_85, li_86, li_96, li_99, li_100, li_127, li_128, li_200, li_201, li_384, li_768, li_1023, li_5376, li_6144]
    rw [li_5376, fle_n (by omega) (by omega) (by omega), li_768, iI_add, zc_in (by omega) (by omega) (by omega), zc_in (by omega) (by omega) (by omega), iI_natN (by omega), iI_nat (by omega) (by omega), show ((i : Int) + 768).toNat = i + 768 by omega, c2, zn_eq, li_1, iI_add, show 0 + i = i by omega]; rfl
  · show fX7_keeps_L11 (iI ((5376 : Nat) : Int)) Mi = _
    unfold fX7_keeps_L11
    rw [li_5376, fle_p (by omega) (by omega) (by omega)]
theorem r_keeps {M : zMem} {n w : Nat} {P : Nat → Nat → Bool} (hP : rPg M w P) (hn : n ≤ 8) (h : M 60 10 = iI n) : ∃ f, fX7_keeps M = some (zwr (zwa M 68 f) 60 10 (iI (if n < 8 then n + 1 else 8 : Nat))) ∧ ∀ y, y < 6144 → f y = if 768 * (if n < 8 then n else 7) ≤ y ∧ y < 768 * (if n < 8 then n else 7) + 768 then b2 (inkX P (y - 768 * (if n < 8 then n else 7))) else if n = 8 ∧ y < 5376 then vp_nar .boolean (M 68 (y + 768)) else M 68 y := by
  unfold fX7_keeps
  rw [zj_eq, h]
  by_cases q : n < 8
  · rw [li_8, feq_n (by omega) (by omega) (by omega)]
    dsimp only
    rw [li_0, r_kp52 hP q h, zb1_eq]
    refine ⟨fun y => if 768 * n ≤ y ∧ y < 768 * n + 768 then b2 (inkX P (y - 768 * n)) else M 68 y, ?_, ?_⟩
    · show some (zwr (zwa M 68 (fun y => if 768 * n ≤ y ∧ y < 768 * n + 768 then b2 (inkX P (y - 768 * n)) else M 68 y)) 60 10 (zwa M 68 (fun y => if 768 * n ≤ y ∧ y < 768 * n + 768 then b2 (inkX P (y - 768 * n)) else M 68 y) 60 10 + 1)) = _
      rw [zwa_o (by omega), h, if_pos q, li_1, iI_add]; rfl
    · intro y hy
      simp only [if_pos q]
      by_cases z : 768 * n ≤ y ∧ y < 768 * n + 768
      · rw [if_pos z, if_pos z]
      · rw [if_neg z, if_neg z, if_neg (by omega)]
  · have e8 : n = 8 := by omega
    subst e8
    obtain ⟨M1, eM1⟩ : ∃ M1, M1 = zwr (zwa M 68 (fun y => if 0 ≤ y ∧ y < 0 + 5376 then vp_nar .boolean (M 68 (y - 0 + 768)) else M 68 y)) 60 10 (iI ((7 : Nat) : Int)) := ⟨_, rfl⟩
    have g : rPg M1 w P := rPg_eq hP (by rw [eM1]; ((simp (disch := omega) only [zn_eq, zj_eq, zb1_eq, zb2_eq, zb3_eq, zbr_l, zbr_r, zc_in, iI_add, iI_sub, iI_mul, iI_neg, iI_lt, iI_le, iI_eq, zwr_zwr, zwa_zwa, zwr_s, zwr_o, zwr_O, zwr_k, zwa_s, zwa_S, zwa_o, zwa_O, upd_s, upd_o, if_true, if_false, if_pos, if_neg, iI_natN, iI_nat, Int.toNat_natCast, c_isRow1, c_isRow0, c_isCard1, c_isCard0, r_within1, r_within0, r_isRow1, r_isRow0, r_isCard1, r_isCard0, c_isAxis1, c_isAxis0, c_isShear1, c_isShear0, r_isAxis1, r_isAxis0, r_isShear1, r_isShear0, zc_cp, li_0, li_1, li_2, li_3, li_4, li_5, li_6, li_7, li_8, li_9, li_10, li_11, li_12, li_15, li_16, li_18, li_22, li_23, li_24, li_28, li_31, li_32, li_33, li_40, li_52, li_53, li_63, li_64, li_85, li_86, li_96, li_99, li_100, li_127, li_128, li_200, li_201, li_384, li_768, li_1023, li_5376, li_6144]); try rfl)) (fun k => by rw [eM1]; ((simp (disch := omega) only [zn_eq, zj_eq, zb1_eq, zb2_eq, zb3_eq, zbr_l, zbr_r, zc_in, iI_add, iI_sub, iI_mul, iI_neg, iI_lt, iI_le, iI_eq, zwr_zwr, zwa_zwa, zwr_s, zwr_o, zwr_O, zwr_k, zwa_s, zwa_S, zwa_o, zwa_O, upd_s, upd_o, if_true, if_false, if_pos, if_neg, iI_natN, iI_nat, Int.toNat_natCast, c_isRow1, c_isRow0, c_isCard1, c_isCard0, r_within1, r_within0, r_isRow1, r_isRow0, r_isCard1, r_isCard0, c_isAxis1, c_isAxis0, c_isShear1, c_isShear0, r_isAxis1, r_isAxis0, r_isShear1, r_isShear0, zc_cp, li_0, li_1, li_2, li_3, li_4, li_5, li_6, li_7, li_8, li_9, li_10, li_11, li_12, li_15, li_16, li_18, li_22, li_23, li_24, li_28, li_31, li_32, li_33, li_40, li_52, li_53, li_63, li_64, li_85, li_86, li_96, li_99, li_100, li_127, li_128, li_200, li_201, li_384, li_768, li_1023, li_5376, li_6144]); try rfl))
    rw [li_8, feq_p (by omega), li_0, r_kp11, zb1_eq]
    refine ⟨fun y => if 768 * 7 ≤ y ∧ y < 768 * 7 + 768 then b2 (inkX P (y - 768 * 7)) else M1 68 y, ?_, ?_⟩
    · dsimp only [zu2]
      rw [zwa_o (by omega), h, zn_eq, li_1, iI_sub, show ((8 : Nat) : Int) - 1 = ((7 : Nat) : Int) from rfl, ← eM1, r_kp52 (m := 7) g (by omega) (by rw [eM1]; ((simp (disch := omega) only [zn_eq, zj_eq, zb1_eq, zb2_eq, zb3_eq, zbr_l, zbr_r, zc_in, iI_add, iI_sub, iI_mul, iI_neg, iI_lt, iI_le, iI_eq, zwr_zwr, zwa_zwa, zwr_s, zwr_o, zwr_O, zwr_k, zwa_s, zwa_S, zwa_o, zwa_O, upd_s, upd_o, if_true, if_false, if_pos, if_neg, iI_natN, iI_nat, Int.toNat_natCast, c_isRow1, c_isRow0, c_isCard1, c_isCard0, r_within1, r_within0, r_isRow1, r_isRow0, r_isCard1, r_isCard0, c_isAxis1, c_isAxis0, c_isShear1, c_isShear0, r_isAxis1, r_isAxis0, r_isShear1, r_isShear0, zc_cp, li_0, li_1, li_2, li_3, li_4, li_5, li_6, li_7, li_8, li_9, li_10, li_11, li_12, li_15, li_16, li_18, li_22, li_23, li_24, li_28, li_31, li_32, li_33, li_40, li_52, li_53, li_63, li_64, li_85, li_86, li_96, li_99, li_100, li_127, li_128, li_200, li_201, li_384, li_768, li_1023, li_5376, li_6144]); try rfl)), zb1_eq]
      dsimp only [zu2]
      rw [zwa_o (by omega), zn_eq]
      congr 1
      have ea : M1 60 10 + iI 1 = iI ((if 8 < 8 then 8 + 1 else 8 : Nat) : Int) := by rw [eM1, zwr_s, iI_add]; rfl
      rw [ea]
      funext c' k'
      by_cases z : c' = 60 ∧ k' = 10
      · rw [z.1, z.2, zwr_s, zwr_s]
      · by_cases z2 : c' = 60
        · have z3 : k' ≠ 10 := fun e => z ⟨z2, e⟩
          subst z2
          rw [zwr_k z3, zwr_k z3, zwa_o (by omega), zwa_o (by omega), eM1, zwr_k z3, zwa_o (by omega)]
        · rw [zwr_o z2, zwr_o z2]
          by_cases z4 : c' = 68
          · subst z4
            rw [zwa_s, zwa_s]
          · rw [zwa_o z4, zwa_o z4, eM1, zwr_o z2, zwa_o z4]
    · intro y hy
      simp only [if_neg q]
      by_cases z : 768 * 7 ≤ y ∧ y < 768 * 7 + 768
      · rw [if_pos z, if_pos z]
      · rw [if_neg z, if_neg z, if_pos (show True ∧ y < 5376 from ⟨trivial, by omega⟩), eM1, zwr_o (by omega), zwa_s, if_pos (by omega), show y - 0 + 768 = y + 768 by omega]
theorem r_ink116 {M : zMem} {f : Nat → Bool} (h : ∀ y, y < 768 → M 69 y = b2 (f y)) : zlp (zu2 fX7_moveAll_L116) zfu (iI 0, M) = some (iI 768, zwa M 61 (fun y => if 0 ≤ y ∧ y < 0 + 768 then b2 (f (y - 0)) else M 61 y)) := by
  refine lp_wr 768 0 61 (fun y => b2 (f y)) M (by omega) (fun i hi Mi eMi => ?_) (fun Mi eMi => ?_)
  · show fX7_moveAll_L116 (iI i) Mi = _
    unfold fX7_moveAll_L116
    have c2 : Mi 69 i = b2 (f i) := by rw [eMi]; simp (disch := omega) only [zn_eq, zj_eq, zb1_eq, zb2_eq, zb3_eq, zbr_l, zbr_r, zc_in, iI_add, iI_sub, iI_mul, iI_neg, iI_lt, iI_le, iI_eq, zwr_zwr, zwa_zwa, zwr_s, zwr_o, zwr_O, zwr_k, zwa_s, zwa_S, zwa_o, zwa_O, upd_s, upd_o, if_true, if_false, if_pos, if_neg, iI_natN, iI_nat, Int.toNat_natCast, c_isRow1, c_isRow0, c_isCard1, c_isCard0, r_within1, r_within0, r_isRow1, r_isRow0, r_isCard1, r_isCard0, c_isAxis1, c_isAxis0, c_isShear1, c_isShear0, r_isAxis1, r_isAxis0, r_isShear1, r_isShear0, zc_cp, li_0, li_1, li_2, li_3, li_4, li_5, li_6, li_7, li_8, li_9, li_10, li_11, li_12, li_15, li_16, li_18, li_22, li_23, li_24, li_28, li_31, li_32, li_33, li_40, li_52, li_53, li_63, li_64, li_85, li_86, li_96, li_99, li_100, li_127, li_128, li_200, li_201, li_384, li_768, li_1023, li_5376, li_6144]; exact h i hi
    rw [li_768, fle_n (by omega) (by omega) (by omega), zc_in (by omega) (by omega) (by omega), zc_in (by omega) (by omega) (by omega), zn_eq, iI_natN (by omega), c2, b2_nar, li_1, iI_add, show 0 + i = i by omega]; rfl
  · show fX7_moveAll_L116 (iI ((768 : Nat) : Int)) Mi = _
    unfold fX7_moveAll_L116
    rw [li_768, fle_p (by omega) (by omega) (by omega)]
theorem r_moveAll {M : zMem} {w n : Nat} {P P' : Nat → Nat → Bool} {a s : Int32} {T : Nat → Int} (hP : rPg M w P) (hn : n ≤ 8) (h10 : M 60 10 = iI n)
    (hT : ∀ N : zMem, (∀ c k, c ≠ 69 → N c k = M c k) → ∀ x, x < 32 * w → inkX P x = true → fX7_goesTo a s (iI ((x / 32 : Nat) : Int)) (iI ((x % 32 : Nat) : Int)) N = some (iI (T x)) ∧ (T x = -9 ∨ (0 ≤ T x ∧ T x < 768)))
    (hPw : ∀ k r, P' k r = true → k < w ∧ r < 32) (hP' : ∀ k, k < 24 → ∀ r, r < 32 → P' k r = mvA P T (32 * w) (32 * k + r)) :
    ((∀ x, x < 32 * w → inkX P x = true → ¬ T x = -9) → ∃ M2, fX7_moveAll a s M = some (iI (mvN P T (32 * w)), M2) ∧ rDone M M2 w P P' n) ∧
    (¬ (∀ x, x < 32 * w → inkX P x = true → ¬ T x = -9) → ∃ M2, fX7_moveAll a s M = some (iI (-3), M2) ∧ ∀ c k, c ≠ 69 → M2 c k = M c k) := by
  obtain ⟨M0, eM0⟩ : ∃ M0, M0 = zwa M 69 (fun y => if 0 ≤ y ∧ y < 0 + 768 then 0 else M 69 y) := ⟨_, rfl⟩
  have g0 : rPg M0 w P := rPg_eq hP (by rw [eM0]; ((simp (disch := omega) only [zn_eq, zj_eq, zb1_eq, zb2_eq, zb3_eq, zbr_l, zbr_r, zc_in, iI_add, iI_sub, iI_mul, iI_neg, iI_lt, iI_le, iI_eq, zwr_zwr, zwa_zwa, zwr_s, zwr_o, zwr_O, zwr_k, zwa_s, zwa_S, zwa_o, zwa_O, upd_s, upd_o, if_true, if_false, if_pos, if_neg, iI_natN, iI_nat, Int.toNat_natCast, c_isRow1, c_isRow0, c_isCard1, c_isCard0, r_within1, r_within0, r_isRow1, r_isRow0, r_isCard1, r_isCard0, c_isAxis1, c_isAxis0, c_isShear1, c_isShear0, r_isAxis1, r_isAxis0, r_isShear1, r_isShear0, zc_cp, li_0, li_1, li_2, li_3, li_4, li_5, li_6, li_7, li_8, li_9, li_10, li_11, li_12, li_15, li_16, li_18, li_22, li_23, li_24, li_28, li_31, li_32, li_33, li_40, li_52, li_53, li_63, li_64, li_85, li_86, li_96, li_99, li_100, li_127, li_128, li_200, li_201, li_384, li_768, li_1023, li_5376, li_6144]); try rfl)) (fun k => by rw [eM0]; ((simp (disch := omega) only [zn_eq, zj_eq, zb1_eq, zb2_eq, zb3_eq, zbr_l, zbr_r, zc_in, iI_add, iI_sub, iI_mul, iI_neg, iI_lt, iI_le, iI_eq, zwr_zwr, zwa_zwa, zwr_s, zwr_o, zwr_O, zwr_k, zwa_s, zwa_S, zwa_o, zwa_O, upd_s, upd_o, if_true, if_false, if_pos, if_neg, iI_natN, iI_nat, Int.toNat_natCast, c_isRow1, c_isRow0, c_isCard1, c_isCard0, r_within1, r_within0, r_isRow1, r_isRow0, r_isCard1, r_isCard0, c_isAxis1, c_isAxis0, c_isShear1, c_isShear0, r_isAxis1, r_isAxis0, r_isShear1, r_isShear0, zc_cp, li_0, li_1, li_2, li_3, li_4, li_5, li_6, li_7, li_8, li_9, li_10, li_11, li_12, li_15, li_16, li_18, li_22, li_23, li_24, li_28, li_31, li_32, li_33, li_40, li_52, li_53, li_63, li_64, li_85, li_86, li_96, li_99, li_100, li_127, li_128, li_200, li_201, li_384, li_768, li_1023, li_5376, li_6144]); try rfl))
  have hm := r_main (M := M0) (a := a) (s := s) (T := T) g0 (fun y hy => by rw [eM0, zwa_s, if_pos (by omega)]) (fun N hN => hT N (fun c k h => by rw [hN c k h, eM0, zwa_o h]))
  constructor
  · intro hok
    have hl := hm.1 hok
    obtain ⟨M3, eM3⟩ : ∃ M3, M3 = zwa M0 69 (fun y => if y < 768 then b2 (mvA P T (32 * w) y) else M0 69 y) := ⟨_, rfl⟩
    rw [← eM3] at hl
    have g3 : rPg M3 w P := rPg_eq g0 (by rw [eM3]; ((simp (disch := omega) only [zn_eq, zj_eq, zb1_eq, zb2_eq, zb3_eq, zbr_l, zbr_r, zc_in, iI_add, iI_sub, iI_mul, iI_neg, iI_lt, iI_le, iI_eq, zwr_zwr, zwa_zwa, zwr_s, zwr_o, zwr_O, zwr_k, zwa_s, zwa_S, zwa_o, zwa_O, upd_s, upd_o, if_true, if_false, if_pos, if_neg, iI_natN, iI_nat, Int.toNat_natCast, c_isRow1, c_isRow0, c_isCard1, c_isCard0, r_within1, r_within0, r_isRow1, r_isRow0, r_isCard1, r_isCard0, c_isAxis1, c_isAxis0, c_isShear1, c_isShear0, r_isAxis1, r_isAxis0, r_isShear1, r_isShear0, zc_cp, li_0, li_1, li_2, li_3, li_4, li_5, li_6, li_7, li_8, li_9, li_10, li_11, li_12, li_15, li_16, li_18, li_22, li_23, li_24, li_28, li_31, li_32, li_33, li_40, li_52, li_53, li_63, li_64, li_85, li_86, li_96, li_99, li_100, li_127, li_128, li_200, li_201, li_384, li_768, li_1023, li_5376, li_6144]); try rfl)) (fun k => by rw [eM3]; ((simp (disch := omega) only [zn_eq, zj_eq, zb1_eq, zb2_eq, zb3_eq, zbr_l, zbr_r, zc_in, iI_add, iI_sub, iI_mul, iI_neg, iI_lt, iI_le, iI_eq, zwr_zwr, zwa_zwa, zwr_s, zwr_o, zwr_O, zwr_k, zwa_s, zwa_S, zwa_o, zwa_O, upd_s, upd_o, if_true, if_false, if_pos, if_neg, iI_natN, iI_nat, Int.toNat_natCast, c_isRow1, c_isRow0, c_isCard1, c_isCard0, r_within1, r_within0, r_isRow1, r_isRow0, r_isCard1, r_isCard0, c_isAxis1, c_isAxis0, c_isShear1, c_isShear0, r_isAxis1, r_isAxis0, r_isShear1, r_isShear0, zc_cp, li_0, li_1, li_2, li_3, li_4, li_5, li_6, li_7, li_8, li_9, li_10, li_11, li_12, li_15, li_16, li_18, li_22, li_23, li_24, li_28, li_31, li_32, li_33, li_40, li_52, li_53, li_63, li_64, li_85, li_86, li_96, li_99, li_100, li_127, li_128, li_200, li_201, li_384, li_768, li_1023, li_5376, li_6144]); try rfl))
    obtain ⟨f, hk1, hk2⟩ := r_keeps (M := M3) (n := n) g3 hn (by rw [eM3, eM0]; simp (disch := omega) only [zn_eq, zj_eq, zb1_eq, zb2_eq, zb3_eq, zbr_l, zbr_r, zc_in, iI_add, iI_sub, iI_mul, iI_neg, iI_lt, iI_le, iI_eq, zwr_zwr, zwa_zwa, zwr_s, zwr_o, zwr_O, zwr_k, zwa_s, zwa_S, zwa_o, zwa_O, upd_s, upd_o, if_true, if_false, if_pos, if_neg, iI_natN, iI_nat, Int.toNat_natCast, c_isRow1, c_isRow0, c_isCard1, c_isCard0, r_within1, r_within0, r_isRow1, r_isRow0, r_isCard1, r_isCard0, c_isAxis1, c_isAxis0, c_isShear1, c_isShear0, r_isAxis1, r_isAxis0, r_isShear1, r_isShear0, zc_cp, li_0, li_1, li_2, li_3, li_4, li_5, li_6, li_7, li_8, li_9, li_10, li_11, li_12, li_15, li_16, li_18, li_22, li_23, li_24, li_28, li_31, li_32, li_33, li_40, li_52, li_53, li_63, li_64, li_85, li_86, li_96, li_99, li_100, li_127, li_128, li_200, li_201, li_384, li_768, li_1023, li_5376, li_6144]; exact h10)
    obtain ⟨M4, eM4⟩ : ∃ M4, M4 = zwr (zwa M3 68 f) 60 10 (iI (if n < 8 then n + 1 else 8 : Nat)) := ⟨_, rfl⟩
    rw [← eM4] at hk1
    have h116 := r_ink116 (M := M4) (f := mvA P T (32 * w)) (fun y hy => by rw [eM4, zwr_o (by omega), zwa_o (by omega), eM3, zwa_s, if_pos hy])
    refine ⟨zwa M4 61 (fun y => if 0 ≤ y ∧ y < 0 + 768 then b2 (mvA P T (32 * w) (y - 0)) else M4 61 y), ?_, ?_⟩
    · unfold fX7_moveAll
      rw [li_0, r_then0, zb1_eq, ← eM0]
      show zbr (zlp (zu3 (fX7_moveAll_L30 a s)) zfu (iI 0, iI 0, M0)) _ _ = _
      rw [hl, zbr_l]
      show zb1 (fX7_keeps M3) _ = _
      rw [hk1, zb1_eq, h116, zb1_eq]
    · refine ⟨⟨hP.1, hP.2.1, ?_, fun k hk r hr => ?_, hPw⟩, ?_, fun y hy => ?_, ?_, fun c k h => ?_⟩
      · rw [zwa_o (by omega), eM4, zwr_k (by omega), zwa_o (by omega)]; exact g3.2.2.1
      · rw [zwa_s, if_pos (by omega), hP' k hk r hr]; rfl
      · rw [zwa_o (by omega), eM4, zwr_s]
      · rw [zwa_o (by omega), eM4, zwr_o (by omega), zwa_s, hk2 y hy, eM3, zwa_o (by omega), zwa_o (by omega), eM0, zwa_o (by omega), zwa_o (by omega)]; rfl
      · rw [zwa_o (by omega), eM4, zwr_k (by omega), zwa_o (by omega), eM3, zwa_o (by omega), eM0, zwa_o (by omega)]
      · rw [zwa_o (by omega), eM4, zwr_o (by omega), zwa_o (by omega), eM3, zwa_o (by omega), eM0, zwa_o (by omega)]
  · intro hbad
    obtain ⟨f, hl⟩ := hm.2 hbad
    refine ⟨zwa M0 69 f, ?_, fun c k hc => by rw [zwa_o hc, eM0, zwa_o hc]⟩
    · unfold fX7_moveAll
      rw [li_0, r_then0, zb1_eq, ← eM0]
      show zbr (zlp (zu3 (fX7_moveAll_L30 a s)) zfu (iI 0, iI 0, M0)) _ _ = _
      rw [hl, zbr_r]
