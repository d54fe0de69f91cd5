/-! a move of the class: columns -/
def rsd (x : Int32) (u : Int) : Int32 := if u < 0 then x <<< (iI (-u) &&& 31) else zush x (iI u)
theorem c_raised {x : Int32} {u : Int} (h1 : -31 ≤ u) (h2 : u ≤ 31) : fX4_raised x (iI u) = some (rsd x u) := by
  unfold fX4_raised rsd
  rw [show (-32 : Int32) = iI (-32) from rfl, li_32, fle_n (by omega) (by omega) (by omega), flt_p (by omega) (by omega) (by omega)]
  by_cases q : u < 0
  · rw [if_pos q, li_0, flt_p (by omega) (by omega) (by omega), iI_neg]
  · rw [if_neg q, li_0, flt_n (by omega) (by omega) (by omega)]
def shB (p : Nat → Bool) (u : Int) (r : Nat) : Bool := decide (0 ≤ (r : Int) + u ∧ (r : Int) + u < 32) && p ((r : Int) + u).toNat
theorem bt_rsd {x : Int32} {u : Int} (h1 : -31 ≤ u) (h2 : u ≤ 31) {r : Nat} (hr : r < 32) : bt (rsd x u) r = shB (bt x) u r := by
  unfold rsd shB
  by_cases q : u < 0
  · rw [if_pos q, show iI (-u) = nI (-u).toNat from by rw [nI_iI]; congr 1; omega, b_shl _ (by omega) _ hr]
    by_cases z : (-u).toNat ≤ r
    · rw [decide_eq_true z, decide_eq_true (by omega)]
      congr 2; omega
    · rw [decide_eq_false z, decide_eq_false (by omega)]; rfl
  · rw [if_neg q, show iI u = nI u.toNat from by rw [nI_iI]; congr 1; omega]
    show bt ((x.toUInt32 >>> ((nI u.toNat).toUInt32 &&& Int32.toUInt32 31)).toInt32) r = _
    rw [b_ushr _ (by omega)]
    by_cases z : (r : Int) + u < 32
    · rw [decide_eq_true (by omega), Bool.true_and]
      congr 1; omega
    · rw [decide_eq_false (by omega), b_big (by omega)]; rfl
theorem ct_shB (p : Nat → Bool) (u : Int) (h1 : -31 ≤ u) (h2 : u ≤ 31) : fb_ct (shB p u) 32 = fb_ct p 32 ↔ ∀ r : Nat, r < 32 → p r = true → 0 ≤ (r : Int) - u ∧ (r : Int) - u < 32 := by
  by_cases q : u < 0
  · have e1 : fb_ct (shB p u) 32 = fb_ct p (32 - (-u).toNat) := by
      rw [show (32 : Nat) = (-u).toNat + (32 - (-u).toNat) by omega, fb_ct_split, fb_ct_zero.mpr (fun k hk => by unfold shB; rw [decide_eq_false (by omega)]; rfl), Nat.zero_add, show (-u).toNat + (32 - (-u).toNat) - (-u).toNat = 32 - (-u).toNat by omega]
      apply fb_ct_cong
      intro k hk
      unfold shB
      rw [decide_eq_true (by omega), Bool.true_and]
      congr 1; omega
    have e2 : fb_ct p 32 = fb_ct p (32 - (-u).toNat) + fb_ct (fun k => p (32 - (-u).toNat + k)) (-u).toNat := by
      rw [← fb_ct_split]; congr 1; omega
    rw [e1, e2]
    constructor
    · intro h r hr hp
      have hz : fb_ct (fun k => p (32 - (-u).toNat + k)) (-u).toNat = 0 := by omega
      by_cases c : r < 32 - (-u).toNat
      · omega
      · have := fb_ct_zero.mp hz (r - (32 - (-u).toNat)) (by omega)
        rw [show 32 - (-u).toNat + (r - (32 - (-u).toNat)) = r by omega, hp] at this
        cases this
    · intro h
      have hz : fb_ct (fun k => p (32 - (-u).toNat + k)) (-u).toNat = 0 := fb_ct_zero.mpr (fun k hk => by
        cases hp : p (32 - (-u).toNat + k) with
        | false => rfl
        | true => have := h _ (by omega) hp; omega)
      omega
  · have e1 : fb_ct (shB p u) 32 = fb_ct (fun k => p (u.toNat + k)) (32 - u.toNat) := by
      rw [show (32 : Nat) = (32 - u.toNat) + u.toNat by omega, fb_ct_split, show (32 - u.toNat + u.toNat - u.toNat) = 32 - u.toNat by omega, (fb_ct_zero (p := fun k => shB p u (32 - u.toNat + k))).mpr (fun k hk => by unfold shB; rw [decide_eq_false (by omega)]; rfl), Nat.add_zero]
      apply fb_ct_cong
      intro k hk
      unfold shB
      rw [decide_eq_true (by omega), Bool.true_and]
      congr 1; omega
    have e2 : fb_ct p 32 = fb_ct p u.toNat + fb_ct (fun k => p (u.toNat + k)) (32 - u.toNat) := by
      rw [← fb_ct_split]; congr 1; omega
    rw [e1, e2]
    constructor
    · intro h r hr hp
      have hz : fb_ct p u.toNat = 0 := by omega
      by_cases c : r < u.toNat
      · have := fb_ct_zero.mp hz r c
        rw [hp] at this; cases this
      · omega
    · intro h
      have hz : fb_ct p u.toNat = 0 := fb_ct_zero.mpr (fun k hk => by
        cases hp : p k with
        | false => rfl
        | true => have := h _ (by omega) hp; omega)
      omega
theorem c_finish {M : zMem} {w n x : Nat} (hw : w ≤ 24) (hn : n ≤ 8) (hx : x < 8) (h3 : M 1 3 = iI w) (h4 : M 1 4 = iI n) (h5 : M 1 5 = iI x) : fX4_finishMove M = some (zwr (zwr (zwa (zwa M (5 + x) (fun k => if k < 24 then M 2 k else M (5 + x) k)) 2 (fun k => if k < w then M 3 k else M 2 k)) 1 5 (iI ((x + 1) % 8 : Nat))) 1 4 (iI (if n < 8 then n + 1 else 8 : Nat))) := by
  unfold fX4_finishMove
  have e2 : iI (x : Int) + 1 = iI ((x + 1 : Nat) : Int) := by rw [li_1, iI_add]; rfl
  rw [h5, zc_in (by omega) (by omega) (by omega), iI_natN (by omega), li_0, li_24, zc_cp (by omega) (by omega) (by omega) (by omega) (by omega) (by omega) (by omega), zn_eq]
  have ea : zwa M (5 + x) (va_cpy (M 2) (M (5 + x)) (iI 0).toNatClampNeg (iI 0).toNatClampNeg (iI 24).toNatClampNeg) = zwa M (5 + x) (fun k => if k < 24 then M 2 k else M (5 + x) k) := by
    apply zwa_ext
    intro k
    rw [iI_nat (by omega) (by omega), iI_nat (by omega) (by omega)]
    unfold va_cpy
    by_cases q : k < 24
    · rw [if_pos q, if_pos (by omega)]
      congr 1; omega
    · rw [if_neg q, if_neg (by omega)]
  rw [ea, zwa_o (by omega), h3, zc_cp (by omega) (by omega) (by omega) (by omega) (by omega) (by omega) (by omega), zn_eq, zwa_O (by omega), zwa_O (by omega)]
  have eb : ∀ N : zMem, zwa N 2 (va_cpy (M 3) (M 2) (iI 0).toNatClampNeg (iI 0).toNatClampNeg (iI (w : Int)).toNatClampNeg) = zwa N 2 (fun k => if k < w then M 3 k else M 2 k) := by
    intro N
    apply zwa_ext
    intro k
    rw [iI_nat (by omega) (by omega), iI_natN (by omega)]
    unfold va_cpy
    by_cases q : k < w
    · rw [if_pos q, if_pos (by omega)]
      congr 1; omega
    · rw [if_neg q, if_neg (by omega)]
  rw [eb, zwa_o (by omega), zwa_o (by omega), h5, e2, nI8 (by omega), zn_eq, zn_eq, zwr_k (by omega), zwa_o (by omega), zwa_o (by omega), h4]
  congr 2
  unfold zmmin
  rw [li_1, li_8, iI_add]
  by_cases q : n < 8
  · rw [flt_n (by omega) (by omega) (by omega), if_pos q]; rfl
  · rw [flt_p (by omega) (by omega) (by omega), if_neg q]; rfl
/-- what a move that was done leaves on the class's side -/
def cDone (M M1 : zMem) (w : Nat) (P' : Nat → Nat → Bool) (n x : Nat) : Prop := cPg M1 w P' ∧ (∀ k, k < 24 → M1 (5 + x) k = M 2 k) ∧ M1 1 4 = iI (if n < 8 then n + 1 else 8 : Nat) ∧ M1 1 5 = iI ((x + 1) % 8 : Nat) ∧ (∀ c k, 5 ≤ c → c ≤ 12 → c ≠ 5 + x → M1 c k = M c k) ∧ ∀ c k, (c = 0 ∨ (14 ≤ c ∧ c ≤ 21) ∨ 60 ≤ c) → M1 c k = M c k
def rDone (M1 M2 : zMem) (w : Nat) (P P' : Nat → Nat → Bool) (n : Nat) : Prop := rPg M2 w P' ∧ M2 60 10 = iI (if n < 8 then n + 1 else 8 : Nat) ∧ (∀ y, y < 6144 → M2 68 y = if 768 * (if n < 8 then n else 7) ≤ y ∧ y < 768 * (if n < 8 then n else 7) + 768 then b2 (P ((y - 768 * (if n < 8 then n else 7)) / 32) ((y - 768 * (if n < 8 then n else 7)) % 32)) else if n = 8 ∧ y < 5376 then vp_nar .boolean (M1 68 (y + 768)) else M1 68 y) ∧ M2 60 0 = M1 60 0 ∧ ∀ c k, (c < 60 ∨ (62 ≤ c ∧ c ≤ 64)) → M2 c k = M1 c k
theorem Rl_move {M M1 M2 : zMem} {w n x : Nat} {P P' : Nat → Nat → Bool} (h1 : cPg M w P) (hn : n ≤ 8) (hx : x < 8) (m4 : ∀ i, i < n → kPg M w (5 + (x + 7 - i) % 8) (768 * (n - 1 - i))) (h4 : ∀ j, j < 4 → crd M j) (h5 : M 0 6 = M 60 0) (hc : cDone M M1 w P' n x) (hr : rDone M1 M2 w P P' n) : Rl M2 := by
  obtain ⟨c1, c2, c3, c4, c5, c6⟩ := hc
  obtain ⟨r1, r2, r3, r4, r5⟩ := hr
  refine ⟨⟨w, P', cPg_eq c1 (r5 _ _ (by omega)) (fun k => r5 _ _ (by omega)), r1, if n < 8 then n + 1 else 8, (x + 1) % 8, by split <;> omega, by omega, by rw [r5 _ _ (by omega)]; exact c3, r2, by rw [r5 _ _ (by omega)]; exact c4, fun i hi => ?_⟩, fun j hj => ?_, ?_⟩
  · cases i with
    | zero =>
      refine ⟨P, fun k hk r hr => ?_, fun k hk r hr => ?_, h1.2.2.2.2⟩
      · rw [show ((x + 1) % 8 + 7 - 0) % 8 = x by omega, r5 _ _ (by omega), c2 k hk]
        exact h1.2.2.2.1 k hk r hr
      · by_cases q : n < 8
        · simp only [if_pos q] at r3 ⊢
          rw [r3 _ (by omega), if_pos (by omega), show (768 * (n + 1 - 1 - 0) + 32 * k + r - 768 * n) / 32 = k by omega, show (768 * (n + 1 - 1 - 0) + 32 * k + r - 768 * n) % 32 = r by omega]
        · simp only [if_neg q] at r3 ⊢
          rw [r3 _ (by omega), if_pos (by omega), show (768 * (8 - 1 - 0) + 32 * k + r - 768 * 7) / 32 = k by omega, show (768 * (8 - 1 - 0) + 32 * k + r - 768 * 7) % 32 = r by omega]
    | succ i =>
      have hi2 : i < n ∧ i < 7 := by split at hi <;> omega
      obtain ⟨Q, q1, q2, q3⟩ := m4 i hi2.1
      refine ⟨Q, fun k hk r hr => ?_, fun k hk r hr => ?_, q3⟩
      · rw [show ((x + 1) % 8 + 7 - (i + 1)) % 8 = (x + 7 - i) % 8 by omega, r5 _ _ (by omega), c5 _ _ (by omega) (by omega) (by omega)]
        exact q1 k hk r hr
      · have hq := q2 k hk r hr
        by_cases q : n < 8
        · simp only [if_pos q] at r3 ⊢
          rw [r3 _ (by omega), if_neg (by omega), if_neg (by omega), c6 68 _ (by omega), ← hq]
          congr 1; omega
        · simp only [if_neg q] at r3 ⊢
          rw [r3 _ (by omega), if_neg (by omega), if_pos (by omega), c6 68 _ (by omega), show 768 * (8 - 1 - (i + 1)) + 32 * k + r + 768 = 768 * (n - 1 - i) + 32 * k + r by omega, hq, b2_nar]
  · exact crd_ag' hj (h4 j hj) (by rw [r5 _ _ (by omega), c6 _ _ (by omega)]) (by rw [r5 _ _ (by omega), c6 _ _ (by omega)]) (by rw [r5 _ _ (by omega), c6 _ _ (by omega)]) (by rw [r5 _ _ (by omega), c6 _ _ (by omega)]) (fun i => by rw [r5 _ _ (by omega), c6 _ _ (by omega)]) (fun i => by rw [r5 _ _ (by omega), c6 _ _ (by omega)])
  · rw [r5 _ _ (by omega), c6 _ _ (by omega), r4, c6 _ _ (by omega)]; exact h5
/-- the columns slide -/
def colP (P : Nat → Nat → Bool) (w : Nat) (u : Nat → Int) : Nat → Nat → Bool := fun k r => decide (k < w) && (decide (r < 32) && shB (P k) (u k) r)
def colN (P : Nat → Nat → Bool) (u : Nat → Int) (w : Nat) : Nat := fb_sm (fun k => if u k = 0 then 0 else fb_ct (P k) 32) w
def colOk (P : Nat → Nat → Bool) (u : Nat → Int) : Prop := ∀ k r, P k r = true → 0 ≤ (r : Int) - u k ∧ (r : Int) - u k < 32
theorem c_cols {M : zMem} {w n x : Nat} {P : Nat → Nat → Bool} {u : Nat → Int} (hP : cPg M w P) (hn : n ≤ 8) (hx : x < 8) (h4 : M 1 4 = iI n) (h5 : M 1 5 = iI x) (hu : ∀ k, k < w → M 59 k = iI (u k) ∧ -31 ≤ u k ∧ u k ≤ 31) :
    (colOk P u → ∃ M1, fX4_slideColumns M = some (iI (colN P u w), M1) ∧ cDone M M1 w (colP P w u) n x) ∧ (¬ colOk P u → ∃ M1, fX4_slideColumns M = some (iI (-3), M1) ∧ ∀ c k, c ≠ 3 → M1 c k = M c k) := by
  have hw := hP.2.1
  have hcol : ∀ k, k < w → ((∀ r, P k r = true → 0 ≤ (r : Int) - u k ∧ (r : Int) - u k < 32) ↔ fb_ct (bt (rsd (M 2 k) (u k))) 32 = fb_ct (bt (M 2 k)) 32) := by
    intro k hk
    have e1 : fb_ct (bt (rsd (M 2 k) (u k))) 32 = fb_ct (shB (bt (M 2 k)) (u k)) 32 := fb_ct_cong (fun r hr => bt_rsd (hu k hk).2.1 (hu k hk).2.2 hr)
    rw [e1, ct_shB _ _ (hu k hk).2.1 (hu k hk).2.2]
    constructor
    · intro h r hr hb
      rw [hP.2.2.2.1 k (by omega) r hr] at hb
      exact h r hb
    · intro h r hb
      have hr := (hP.2.2.2.2 k r hb).2
      exact h r hr (by rw [hP.2.2.2.1 k (by omega) r hr]; exact hb)
  have hfr : ∀ i : Nat, ∃ Mi : zMem, Mi = zwa M 3 (fun k => if k < i then rsd (M 2 k) (u k) else M 3 k) := fun i => ⟨_, rfl⟩
  have step : ∀ i : Nat, i < w → fX4_slideColumns_L4 (iI i) (iI (colN P u i)) (zwa M 3 (fun k => if k < i then rsd (M 2 k) (u k) else M 3 k)) = if fb_ct (bt (rsd (M 2 i) (u i))) 32 = fb_ct (bt (M 2 i)) 32 then some (.inl (iI ((i + 1 : Nat) : Int), iI (colN P u (i + 1)), zwa M 3 (fun k => if k < i + 1 then rsd (M 2 k) (u k) else M 3 k))) else some (.inr (.inr (iI (-3), zwa M 3 (fun k => if k < i + 1 then rsd (M 2 k) (u k) else M 3 k)))) := by
    intro i hi
    obtain ⟨Mi, eM⟩ := hfr i
    rw [← eM]
    have c1 : Mi 1 3 = iI w := by rw [eM]; simp (disch := omega) only [zn_eq, zj_eq, zb1_eq, zb2_eq, zb3_eq, zbr_l, zbr_r, zc_in, iI_add, iI_sub, iI_mul, iI_neg, iI_lt, iI_le, iI_eq, zwr_zwr, zwa_zwa, zwr_s, zwr_o, zwr_O, zwr_k, zwa_s, zwa_S, zwa_o, zwa_O, upd_s, upd_o, if_true, if_false, if_pos, if_neg, iI_natN, iI_nat, Int.toNat_natCast, c_isRow1, c_isRow0, c_isCard1, c_isCard0, r_within1, r_within0, r_isRow1, r_isRow0, r_isCard1, r_isCard0, c_isAxis1, c_isAxis0, c_isShear1, c_isShear0, r_isAxis1, r_isAxis0, r_isShear1, r_isShear0, zc_cp, li_0, li_1, li_2, li_3, li_4, li_5, li_6, li_7, li_8, li_9, li_10, li_11, li_12, li_15, li_16, li_18, li_22, li_23, li_24, li_28, li_31, li_32, li_33, li_40, li_52, li_53, li_63, li_64, li_85, li_86, li_96, li_99, li_100, li_127, li_128, li_200, li_201, li_384, li_768, li_1023, li_5376, li_6144]; exact hP.2.2.1
    have c2 : Mi 2 i = M 2 i := by rw [eM]; ((simp (disch := omega) only [zn_eq, zj_eq, zb1_eq, zb2_eq, zb3_eq, zbr_l, zbr_r, zc_in, iI_add, iI_sub, iI_mul, iI_neg, iI_lt, iI_le, iI_eq, zwr_zwr, zwa_zwa, zwr_s, zwr_o, zwr_O, zwr_k, zwa_s, zwa_S, zwa_o, zwa_O, upd_s, upd_o, if_true, if_false, if_pos, if_neg, iI_natN, iI_nat, Int.toNat_natCast, c_isRow1, c_isRow0, c_isCard1, c_isCard0, r_within1, r_within0, r_isRow1, r_isRow0, r_isCard1, r_isCard0, c_isAxis1, c_isAxis0, c_isShear1, c_isShear0, r_isAxis1, r_isAxis0, r_isShear1, r_isShear0, zc_cp, li_0, li_1, li_2, li_3, li_4, li_5, li_6, li_7, li_8, li_9, li_10, li_11, li_12, li_15, li_16, li_18, li_22, li_23, li_24, li_28, li_31, li_32, li_33, li_40, li_52, li_53, li_63, li_64, li_85, li_86, li_96, li_99, li_100, li_127, li_128, li_200, li_201, li_384, li_768, li_1023, li_5376, li_6144]); try rfl)
    have c3 : Mi 59 i = iI (u i) := by rw [eM]; simp (disch := omega) only [zn_eq, zj_eq, zb1_eq, zb2_eq, zb3_eq, zbr_l, zbr_r, zc_in, iI_add, iI_sub, iI_mul, iI_neg, iI_lt, iI_le, iI_eq, zwr_zwr, zwa_zwa, zwr_s, zwr_o, zwr_O, zwr_k, zwa_s, zwa_S, zwa_o, zwa_O, upd_s, upd_o, if_true, if_false, if_pos, if_neg, iI_natN, iI_nat, Int.toNat_natCast, c_isRow1, c_isRow0, c_isCard1, c_isCard0, r_within1, r_within0, r_isRow1, r_isRow0, r_isCard1, r_isCard0, c_isAxis1, c_isAxis0, c_isShear1, c_isShear0, r_isAxis1, r_isAxis0, r_isShear1, r_isShear0, zc_cp, li_0, li_1, li_2, li_3, li_4, li_5, li_6, li_7, li_8, li_9, li_10, li_11, li_12, li_15, li_16, li_18, li_22, li_23, li_24, li_28, li_31, li_32, li_33, li_40, li_52, li_53, li_63, li_64, li_85, li_86, li_96, li_99, li_100, li_127, li_128, li_200, li_201, li_384, li_768, li_1023, li_5376, li_6144]; exact (hu i hi).1
    have c4 : zwr Mi 3 i (rsd (M 2 i) (u i)) = zwa M 3 (fun k => if k < i + 1 then rsd (M 2 k) (u k) else M 3 k) := by
      rw [eM, zwa_zwr]
      apply zwa_ext
      intro k
      unfold upd
      dsimp only
      by_cases a : k = i
      · rw [if_pos a, if_pos (by omega), a]
      · rw [if_neg a]
        by_cases b : k < i
        · rw [if_pos b, if_pos (by omega)]
        · rw [if_neg b, if_neg (by omega)]
    unfold fX4_slideColumns_L4
    rw [c1, fle_n (by omega) (by omega) (by omega), li_32, fle_n (by omega) (by omega) (by omega), zc_in (by omega) (by omega) (by omega), zc_in (by omega) (by omega) (by omega), iI_natN (by omega), c2, c3, c_raised (hu i hi).2.1 (hu i hi).2.2, zb1_eq, zc_in (by omega) (by omega) (by omega), zn_eq, c4]
    rw [zwa_o (by omega), zwa_s, zwa_o (by omega), if_pos (show i < i + 1 by omega), zc_in (by omega) (by omega) (by omega), f_bitCount, zb1_eq, zc_in (by omega) (by omega) (by omega), f_bitCount, zb1_eq, nI_iI, nI_iI]
    have b1 := fb_ct_le (bt (M 2 i)) 32
    have b2 := fb_ct_le (bt (rsd (M 2 i) (u i))) 32
    by_cases q : fb_ct (bt (rsd (M 2 i) (u i))) 32 = fb_ct (bt (M 2 i)) 32
    · rw [if_pos q, feq_p (by omega), zc_in (by omega) (by omega) (by omega), (hu i hi).1, zn_eq, li_0, li_1, iI_add]
      have e : colN P u (i + 1) = colN P u i + (if u i = 0 then 0 else fb_ct (P i) 32) := rfl
      rw [e, c_ct hP (by omega)]
      have hu2 := hu i hi
      by_cases z : u i = 0
      · rw [if_pos z, feq_p (by omega), iI_add]; rfl
      · rw [if_neg z, feq_n (by omega) (by omega) (by omega), iI_add]; rfl
    · rw [if_neg q, feq_n (by omega) (by omega) (by omega)]; rfl
  constructor
  · intro hok
    have hl : zlp (zu3 fX4_slideColumns_L4) zfu (iI 0, iI 0, M) = some (.inl (iI w, iI (colN P u w), zwa M 3 (fun k => if k < w then rsd (M 2 k) (u k) else M 3 k))) := by
      refine zlp_seq (S := fun i => (iI (i : Int), iI (colN P u i), zwa M 3 (fun k => if k < i then rsd (M 2 k) (u k) else M 3 k))) _ w (by omega) ?_ (fun i hi => ?_) ?_
      · show _ = (iI 0, iI ((0 : Nat) : Int), zwa M 3 (fun k => if k < 0 then rsd (M 2 k) (u k) else M 3 k))
        rw [zwa_ext (g := M 3) (fun x => if_neg (by omega)), zwa_id]; rfl
      · show fX4_slideColumns_L4 _ _ _ = _
        rw [step i hi, if_pos ((hcol i hi).mp (fun r hr => hok i r hr))]
      · show fX4_slideColumns_L4 (iI (w : Int)) _ _ = _
        unfold fX4_slideColumns_L4
        dsimp only
        rw [if_pos (by rw [zwa_o (by omega), hP.2.2.1]; exact Int32.le_refl _)]
    obtain ⟨Mw, eM⟩ := hfr w
    rw [← eM] at hl
    have hfin := c_finish (M := Mw) (w := w) (n := n) (x := x) hw hn hx (by rw [eM]; simp (disch := omega) only [zn_eq, zj_eq, zb1_eq, zb2_eq, zb3_eq, zbr_l, zbr_r, zc_in, iI_add, iI_sub, iI_mul, iI_neg, iI_lt, iI_le, iI_eq, zwr_zwr, zwa_zwa, zwr_s, zwr_o, zwr_O, zwr_k, zwa_s, zwa_S, zwa_o, zwa_O, upd_s, upd_o, if_true, if_false, if_pos, if_neg, iI_natN, iI_nat, Int.toNat_natCast, c_isRow1, c_isRow0, c_isCard1, c_isCard0, r_within1, r_within0, r_isRow1, r_isRow0, r_isCard1, r_isCard0, c_isAxis1, c_isAxis0, c_isShear1, c_isShear0, r_isAxis1, r_isAxis0, r_isShear1, r_isShear0, zc_cp, li_0, li_1, li_2, li_3, li_4, li_5, li_6, li_7, li_8, li_9, li_10, li_11, li_12, li_15, li_16, li_18, li_22, li_23, li_24, li_28, li_31, li_32, li_33, li_40, li_52, li_53, li_63, li_64, li_85, li_86, li_96, li_99, li_100, li_127, li_128, li_200, li_201, li_384, li_768, li_1023, li_5376, li_6144]; exact hP.2.2.1) (by rw [eM]; simp (disch := omega) only [zn_eq, zj_eq, zb1_eq, zb2_eq, zb3_eq, zbr_l, zbr_r, zc_in, iI_add, iI_sub, iI_mul, iI_neg, iI_lt, iI_le, iI_eq, zwr_zwr, zwa_zwa, zwr_s, zwr_o, zwr_O, zwr_k, zwa_s, zwa_S, zwa_o, zwa_O, upd_s, upd_o, if_true, if_false, if_pos, if_neg, iI_natN, iI_nat, Int.toNat_natCast, c_isRow1, c_isRow0, c_isCard1, c_isCard0, r_within1, r_within0, r_isRow1, r_isRow0, r_isCard1, r_isCard0, c_isAxis1, c_isAxis0, c_isShear1, c_isShear0, r_isAxis1, r_isAxis0, r_isShear1, r_isShear0, zc_cp, li_0, li_1, li_2, li_3, li_4, li_5, li_6, li_7, li_8, li_9, li_10, li_11, li_12, li_15, li_16, li_18, li_22, li_23, li_24, li_28, li_31, li_32, li_33, li_40, li_52, li_53, li_63, li_64, li_85, li_86, li_96, li_99, li_100, li_127, li_128, li_200, li_201, li_384, li_768, li_1023, li_5376, li_6144]; exact h4) (by rw [eM]; simp (disch := omega) only [zn_eq, zj_eq, zb1_eq, zb2_eq, zb3_eq, zbr_l, zbr_r, zc_in, iI_add, iI_sub, iI_mul, iI_neg, iI_lt, iI_le, iI_eq, zwr_zwr, zwa_zwa, zwr_s, zwr_o, zwr_O, zwr_k, zwa_s, zwa_S, zwa_o, zwa_O, upd_s, upd_o, if_true, if_false, if_pos, if_neg, iI_natN, iI_nat, Int.toNat_natCast, c_isRow1, c_isRow0, c_isCard1, c_isCard0, r_within1, r_within0, r_isRow1, r_isRow0, r_isCard1, r_isCard0, c_isAxis1, c_isAxis0, c_isShear1, c_isShear0, r_isAxis1, r_isAxis0, r_isShear1, r_isShear0, zc_cp, li_0, li_1, li_2, li_3, li_4, li_5, li_6, li_7, li_8, li_9, li_10, li_11, li_12, li_15, li_16, li_18, li_22, li_23, li_24, li_28, li_31, li_32, li_33, li_40, li_52, li_53, li_63, li_64, li_85, li_86, li_96, li_99, li_100, li_127, li_128, li_200, li_201, li_384, li_768, li_1023, li_5376, li_6144]; exact h5)
    refine ⟨zwr (zwr (zwa (zwa Mw (5 + x) (fun k => if k < 24 then Mw 2 k else Mw (5 + x) k)) 2 (fun k => if k < w then Mw 3 k else Mw 2 k)) 1 5 (iI ((x + 1) % 8 : Nat))) 1 4 (iI (if n < 8 then n + 1 else 8 : Nat)), ?_, ?_⟩
    · unfold fX4_slideColumns
      rw [li_0, hl, zbr_l]
      show zb1 (fX4_finishMove Mw) _ = _
      rw [hfin, zb1_eq]
    · refine ⟨⟨hP.1, hw, ?_, fun k hk r hr => ?_, fun k r h => ?_⟩, fun k hk => ?_, ?_, ?_, fun c k q1 q2 q3 => ?_, fun c k q => ?_⟩
      · rw [eM]; simp (disch := omega) only [zn_eq, zj_eq, zb1_eq, zb2_eq, zb3_eq, zbr_l, zbr_r, zc_in, iI_add, iI_sub, iI_mul, iI_neg, iI_lt, iI_le, iI_eq, zwr_zwr, zwa_zwa, zwr_s, zwr_o, zwr_O, zwr_k, zwa_s, zwa_S, zwa_o, zwa_O, upd_s, upd_o, if_true, if_false, if_pos, if_neg, iI_natN, iI_nat, Int.toNat_natCast, c_isRow1, c_isRow0, c_isCard1, c_isCard0, r_within1, r_within0, r_isRow1, r_isRow0, r_isCard1, r_isCard0, c_isAxis1, c_isAxis0, c_isShear1, c_isShear0, r_isAxis1, r_isAxis0, r_isShear1, r_isShear0, zc_cp, li_0, li_1, li_2, li_3, li_4, li_5, li_6, li_7, li_8, li_9, li_10, li_11, li_12, li_15, li_16, li_18, li_22, li_23, li_24, li_28, li_31, li_32, li_33, li_40, li_52, li_53, li_63, li_64, li_85, li_86, li_96, li_99, li_100, li_127, li_128, li_200, li_201, li_384, li_768, li_1023, li_5376, li_6144]; exact hP.2.2.1
      · rw [eM]
        simp (disch := omega) only [zn_eq, zj_eq, zb1_eq, zb2_eq, zb3_eq, zbr_l, zbr_r, zc_in, iI_add, iI_sub, iI_mul, iI_neg, iI_lt, iI_le, iI_eq, zwr_zwr, zwa_zwa, zwr_s, zwr_o, zwr_O, zwr_k, zwa_s, zwa_S, zwa_o, zwa_O, upd_s, upd_o, if_true, if_false, if_pos, if_neg, iI_natN, iI_nat, Int.toNat_natCast, c_isRow1, c_isRow0, c_isCard1, c_isCard0, r_within1, r_within0, r_isRow1, r_isRow0, r_isCard1, r_isCard0, c_isAxis1, c_isAxis0, c_isShear1, c_isShear0, r_isAxis1, r_isAxis0, r_isShear1, r_isShear0, zc_cp, li_0, li_1, li_2, li_3, li_4, li_5, li_6, li_7, li_8, li_9, li_10, li_11, li_12, li_15, li_16, li_18, li_22, li_23, li_24, li_28, li_31, li_32, li_33, li_40, li_52, li_53, li_63, li_64, li_85, li_86, li_96, li_99, li_100, li_127, li_128, li_200, li_201, li_384, li_768, li_1023, li_5376, li_6144]
        unfold colP
        rw [decide_eq_true hr, Bool.true_and]
        by_cases kw : k < w
        · rw [if_pos kw, bt_rsd (hu k kw).2.1 (hu k kw).2.2 hr, decide_eq_true kw, Bool.true_and]
          unfold shB
          by_cases z : 0 ≤ (r : Int) + u k ∧ (r : Int) + u k < 32
          · rw [hP.2.2.2.1 k hk _ (by omega)]
          · rw [decide_eq_false z]; rfl
        · rw [if_neg kw, decide_eq_false kw, Bool.false_and, hP.2.2.2.1 k hk r hr]
          cases hq : P k r with
          | false => rfl
          | true => exact absurd (hP.2.2.2.2 _ _ hq).1 kw
      · unfold colP at h
        simp only [Bool.and_eq_true, decide_eq_true_eq] at h
        exact ⟨h.1, h.2.1⟩
      · rw [eM]; ((simp (disch := omega) only [zn_eq, zj_eq, zb1_eq, zb2_eq, zb3_eq, zbr_l, zbr_r, zc_in, iI_add, iI_sub, iI_mul, iI_neg, iI_lt, iI_le, iI_eq, zwr_zwr, zwa_zwa, zwr_s, zwr_o, zwr_O, zwr_k, zwa_s, zwa_S, zwa_o, zwa_O, upd_s, upd_o, if_true, if_false, if_pos, if_neg, iI_natN, iI_nat, Int.toNat_natCast, c_isRow1, c_isRow0, c_isCard1, c_isCard0, r_within1, r_within0, r_isRow1, r_isRow0, r_isCard1, r_isCard0, c_isAxis1, c_isAxis0, c_isShear1, c_isShear0, r_isAxis1, r_isAxis0, r_isShear1, r_isShear0, zc_cp, li_0, li_1, li_2, li_3, li_4, li_5, li_6, li_7, li_8, li_9, li_10, li_11, li_12, li_15, li_16, li_18, li_22, li_23, li_24, li_28, li_31, li_32, li_33, li_40, li_52, li_53, li_63, li_64, li_85, li_86, li_96, li_99, li_100, li_127, li_128, li_200, li_201, li_384, li_768, li_1023, li_5376, li_6144]); try rfl)
      · ((simp (disch := omega) only [zn_eq, zj_eq, zb1_eq, zb2_eq, zb3_eq, zbr_l, zbr_r, zc_in, iI_add, iI_sub, iI_mul, iI_neg, iI_lt, iI_le, iI_eq, zwr_zwr, zwa_zwa, zwr_s, zwr_o, zwr_O, zwr_k, zwa_s, zwa_S, zwa_o, zwa_O, upd_s, upd_o, if_true, if_false, if_pos, if_neg, iI_natN, iI_nat, Int.toNat_natCast, c_isRow1, c_isRow0, c_isCard1, c_isCard0, r_within1, r_within0, r_isRow1, r_isRow0, r_isCard1, r_isCard0, c_isAxis1, c_isAxis0, c_isShear1, c_isShear0, r_isAxis1, r_isAxis0, r_isShear1, r_isShear0, zc_cp, li_0, li_1, li_2, li_3, li_4, li_5, li_6, li_7, li_8, li_9, li_10, li_11, li_12, li_15, li_16, li_18, li_22, li_23, li_24, li_28, li_31, li_32, li_33, li_40, li_52, li_53, li_63, li_64, li_85, li_86, li_96, li_99, li_100, li_127, li_128, li_200, li_201, li_384, li_768, li_1023, li_5376, li_6144]); try rfl)
      · ((simp (disch := omega) only [zn_eq, zj_eq, zb1_eq, zb2_eq, zb3_eq, zbr_l, zbr_r, zc_in, iI_add, iI_sub, iI_mul, iI_neg, iI_lt, iI_le, iI_eq, zwr_zwr, zwa_zwa, zwr_s, zwr_o, zwr_O, zwr_k, zwa_s, zwa_S, zwa_o, zwa_O, upd_s, upd_o, if_true, if_false, if_pos, if_neg, iI_natN, iI_nat, Int.toNat_natCast, c_isRow1, c_isRow0, c_isCard1, c_isCard0, r_within1, r_within0, r_isRow1, r_isRow0, r_isCard1, r_isCard0, c_isAxis1, c_isAxis0, c_isShear1, c_isShear0, r_isAxis1, r_isAxis0, r_isShear1, r_isShear0, zc_cp, li_0, li_1, li_2, li_3, li_4, li_5, li_6, li_7, li_8, li_9, li_10, li_11, li_12, li_15, li_16, li_18, li_22, li_23, li_24, li_28, li_31, li_32, li_33, li_40, li_52, li_53, li_63, li_64, li_85, li_86, li_96, li_99, li_100, li_127, li_128, li_200, li_201, li_384, li_768, li_1023, li_5376, li_6144]); try rfl)
      · rw [eM]; ((simp (disch := omega) only [zn_eq, zj_eq, zb1_eq, zb2_eq, zb3_eq, zbr_l, zbr_r, zc_in, iI_add, iI_sub, iI_mul, iI_neg, iI_lt, iI_le, iI_eq, zwr_zwr, zwa_zwa, zwr_s, zwr_o, zwr_O, zwr_k, zwa_s, zwa_S, zwa_o, zwa_O, upd_s, upd_o, if_true, if_false, if_pos, if_neg, iI_natN, iI_nat, Int.toNat_natCast, c_isRow1, c_isRow0, c_isCard1, c_isCard0, r_within1, r_within0, r_isRow1, r_isRow0, r_isCard1, r_isCard0, c_isAxis1, c_isAxis0, c_isShear1, c_isShear0, r_isAxis1, r_isAxis0, r_isShear1, r_isShear0, zc_cp, li_0, li_1, li_2, li_3, li_4, li_5, li_6, li_7, li_8, li_9, li_10, li_11, li_12, li_15, li_16, li_18, li_22, li_23, li_24, li_28, li_31, li_32, li_33, li_40, li_52, li_53, li_63, li_64, li_85, li_86, li_96, li_99, li_100, li_127, li_128, li_200, li_201, li_384, li_768, li_1023, li_5376, li_6144]); try rfl)
      · rw [eM]; ((simp (disch := omega) only [zn_eq, zj_eq, zb1_eq, zb2_eq, zb3_eq, zbr_l, zbr_r, zc_in, iI_add, iI_sub, iI_mul, iI_neg, iI_lt, iI_le, iI_eq, zwr_zwr, zwa_zwa, zwr_s, zwr_o, zwr_O, zwr_k, zwa_s, zwa_S, zwa_o, zwa_O, upd_s, upd_o, if_true, if_false, if_pos, if_neg, iI_natN, iI_nat, Int.toNat_natCast, c_isRow1, c_isRow0, c_isCard1, c_isCard0, r_within1, r_within0, r_isRow1, r_isRow0, r_isCard1, r_isCard0, c_isAxis1, c_isAxis0, c_isShear1, c_isShear0, r_isAxis1, r_isAxis0, r_isShear1, r_isShear0, zc_cp, li_0, li_1, li_2, li_3, li_4, li_5, li_6, li_7, li_8, li_9, li_10, li_11, li_12, li_15, li_16, li_18, li_22, li_23, li_24, li_28, li_31, li_32, li_33, li_40, li_52, li_53, li_63, li_64, li_85, li_86, li_96, li_99, li_100, li_127, li_128, li_200, li_201, li_384, li_768, li_1023, li_5376, li_6144]); try rfl)
  · intro hbad
    have hex : ∃ i, i < w ∧ ¬ fb_ct (bt (rsd (M 2 i) (u i))) 32 = fb_ct (bt (M 2 i)) 32 := by
      apply Classical.byContradiction
      intro hne
      apply hbad
      intro k r hp
      have hk := (hP.2.2.2.2 k r hp).1
      have : fb_ct (bt (rsd (M 2 k) (u k))) 32 = fb_ct (bt (M 2 k)) 32 := Classical.byContradiction (fun q => hne ⟨k, hk, q⟩)
      exact (hcol k hk).mpr this r hp
    obtain ⟨i0, ⟨hi0, hb0⟩, hmin⟩ := pk_least _ hex
    refine ⟨zwa M 3 (fun k => if k < i0 + 1 then rsd (M 2 k) (u k) else M 3 k), ?_, fun c k hc => zwa_o hc⟩
    · unfold fX4_slideColumns
      have hl : zlp (zu3 fX4_slideColumns_L4) zfu (iI 0, iI 0, M) = some (.inr (iI (-3), zwa M 3 (fun k => if k < i0 + 1 then rsd (M 2 k) (u k) else M 3 k))) := by
        refine zlp_seq (S := fun i => (iI (i : Int), iI (colN P u i), zwa M 3 (fun k => if k < i then rsd (M 2 k) (u k) else M 3 k))) _ i0 (by omega) ?_ (fun i hi => ?_) ?_
        · show _ = (iI 0, iI ((0 : Nat) : Int), zwa M 3 (fun k => if k < 0 then rsd (M 2 k) (u k) else M 3 k))
          rw [zwa_ext (g := M 3) (fun x => if_neg (by omega)), zwa_id]; rfl
        · show fX4_slideColumns_L4 _ _ _ = _
          rw [step i (by omega), if_pos (Classical.byContradiction (fun q => hmin i hi ⟨by omega, q⟩))]
        · show fX4_slideColumns_L4 _ _ _ = _
          rw [step i0 hi0, if_neg hb0]
      rw [li_0, hl, zbr_r]
