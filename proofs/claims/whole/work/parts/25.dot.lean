/-! yes and no, by the numbers -/
theorem b2_t {p q : Prop} [Decidable p] [Decidable q] (hp : p) (hq : q) : b2 (decide p && decide q) = iI 1 := by rw [decide_eq_true hp, decide_eq_true hq]; rfl
theorem b2_f {p q : Prop} [Decidable p] [Decidable q] (h : ¬ (p ∧ q)) : b2 (decide p && decide q) = iI 0 := by
  by_cases hp : p
  · rw [decide_eq_false (p := q) (fun hq => h ⟨hp, hq⟩), Bool.and_false]; rfl
  · rw [decide_eq_false hp]; rfl
theorem c_isRow1 {z : Int} (h1 : 0 ≤ z) (h2 : z < 32) : fX6_isRow (iI z) = some (iI 1) := by rw [c_isRow z (by omega) (by omega), b2_t h1 h2]
theorem c_isRow0 {z : Int} (h : ¬ (0 ≤ z ∧ z < 32)) (r1 : -2147483648 ≤ z) (r2 : z ≤ 2147483647) : fX6_isRow (iI z) = some (iI 0) := by rw [c_isRow z r1 r2, b2_f h]
theorem c_isCard1 {z : Int} (h1 : 0 ≤ z) (h2 : z < 4) : fX6_isCard (iI z) = some (iI 1) := by
  unfold fX6_isCard
  rw [li_0, li_4, flt_n (by omega) (by omega) (by omega), fle_n (by omega) (by omega) (by omega), li_1]
theorem c_isCard0 {z : Int} (h : ¬ (0 ≤ z ∧ z < 4)) (r1 : -2147483648 ≤ z) (r2 : z ≤ 2147483647) : fX6_isCard (iI z) = some (iI 0) := by
  unfold fX6_isCard
  rcases (show z < 0 ∨ (0 ≤ z ∧ 4 ≤ z) by omega) with q | q
  · rw [li_0, flt_p (by omega) (by omega) (by omega)]
  · rw [li_0, li_4, flt_n (by omega) (by omega) (by omega), fle_p (by omega) (by omega) (by omega)]
theorem r_within1 {v a b : Int} (h1 : a ≤ v) (h2 : v ≤ b) (r1 : -2147483648 ≤ a) (r2 : b ≤ 2147483647) : fX7_within (iI v) (iI a) (iI b) = some (iI 1) := by
  rw [r_within v a b (by omega) (by omega) (by omega) (by omega) (by omega) (by omega), b2_t h1 h2]
theorem r_within0 {v a b : Int} (h : ¬ (a ≤ v ∧ v ≤ b)) (r1 : -2147483648 ≤ v ∧ v ≤ 2147483647) (r2 : -2147483648 ≤ a ∧ a ≤ 2147483647) (r3 : -2147483648 ≤ b ∧ b ≤ 2147483647) : fX7_within (iI v) (iI a) (iI b) = some (iI 0) := by
  rw [r_within v a b (by omega) (by omega) (by omega) (by omega) (by omega) (by omega), b2_f h]
theorem r_isRow1 {z : Int} (h1 : 0 ≤ z) (h2 : z < 32) : fX7_isRow (iI z) = some (iI 1) := by rw [r_isRow z (by omega) (by omega), b2_t h1 h2]
theorem r_isRow0 {z : Int} (h : ¬ (0 ≤ z ∧ z < 32)) (r1 : -2147483648 ≤ z) (r2 : z ≤ 2147483647) : fX7_isRow (iI z) = some (iI 0) := by rw [r_isRow z r1 r2, b2_f h]
theorem zc_b1 {α : Type} (k : Option α) : zc (z01 (iI 1)) k = k := zc_t (by decide)
theorem zc_b0 {α : Type} (k : Option α) : zc (z01 (iI 0)) k = k := zc_t (by decide)
theorem r_isCard1 {z : Int} (h1 : 0 ≤ z) (h2 : z < 4) : fX7_isCard (iI z) = some (iI 1) := by
  unfold fX7_isCard
  rw [li_0, li_3, r_within1 (by omega) (by omega) (by omega) (by omega), zb1_eq, zc_b1]
theorem r_isCard0 {z : Int} (h : ¬ (0 ≤ z ∧ z < 4)) (r1 : -2147483648 ≤ z) (r2 : z ≤ 2147483647) : fX7_isCard (iI z) = some (iI 0) := by
  unfold fX7_isCard
  rw [li_0, li_3, r_within0 (by omega) (by omega) (by omega) (by omega), zb1_eq, zc_b0]
theorem c_col1 {M : zMem} {w : Nat} {P : Nat → Nat → Bool} (hP : cPg M w P) {z : Int} (h1 : 0 ≤ z) (h2 : z < w) : fX4_hasColumn (iI z) M = some (iI 1) := by
  have := hP.2.1
  rw [c_hasColumn hP z (by omega) (by omega), b2_t h1 h2]
theorem c_col0 {M : zMem} {w : Nat} {P : Nat → Nat → Bool} (hP : cPg M w P) {z : Int} (h : ¬ (0 ≤ z ∧ z < w)) (r1 : -2147483648 ≤ z) (r2 : z ≤ 2147483647) : fX4_hasColumn (iI z) M = some (iI 0) := by rw [c_hasColumn hP z r1 r2, b2_f h]
theorem r_col1 {M : zMem} {w : Nat} {P : Nat → Nat → Bool} (hP : rPg M w P) {z : Int} (h1 : 0 ≤ z) (h2 : z < w) : fX7_isColumn (iI z) M = some (iI 1) := by
  have := hP.2.1
  rw [r_isColumn hP z (by omega) (by omega), b2_t h1 h2]
theorem r_col0 {M : zMem} {w : Nat} {P : Nat → Nat → Bool} (hP : rPg M w P) {z : Int} (h : ¬ (0 ≤ z ∧ z < w)) (r1 : -2147483648 ≤ z) (r2 : z ≤ 2147483647) : fX7_isColumn (iI z) M = some (iI 0) := by rw [r_isColumn hP z r1 r2, b2_f h]
/-! what the relation needs, part by part -/
theorem Rl_page' {M M' : zMem} (h : ∃ w P, cPg M w P ∧ rPg M w P ∧ mvs M w) (h1 : M' 1 3 = M 1 3) (h2 : M' 1 4 = M 1 4) (h3 : M' 1 5 = M 1 5) (h4 : ∀ k, M' 2 k = M 2 k) (h5 : ∀ c k, 5 ≤ c → c ≤ 12 → M' c k = M c k) (h6 : M' 60 1 = M 60 1) (h7 : M' 60 10 = M 60 10) (h8 : ∀ k, M' 61 k = M 61 k) (h9 : ∀ k, M' 68 k = M 68 k) : ∃ w P, cPg M' w P ∧ rPg M' w P ∧ mvs M' w := by
  obtain ⟨w, P, ⟨a1, a2, a3, a4, a5⟩, ⟨b1, b2, b3, b4, b5⟩, n, x, m1, m2, m3, m4, m5, m6⟩ := h
  refine ⟨w, P, ⟨a1, a2, by rw [h1]; exact a3, fun k hk r hr => by rw [h4]; exact a4 k hk r hr, a5⟩, ⟨b1, b2, by rw [h6]; exact b3, fun k hk r hr => by rw [h8]; exact b4 k hk r hr, b5⟩, n, x, m1, m2, by rw [h2]; exact m3, by rw [h7]; exact m4, by rw [h3]; exact m5, fun i hi => ?_⟩
  obtain ⟨Q, q1, q2, q3⟩ := m6 i hi
  exact ⟨Q, fun k hk r hr => by rw [h5 _ _ (by omega) (by omega)]; exact q1 k hk r hr, fun k hk r hr => by rw [h9]; exact q2 k hk r hr, q3⟩
theorem Rl_f {M : zMem} (h : Rl M) (v : Int32) : Rl (zwr (zwr M 0 6 v) 60 0 v) := by
  obtain ⟨h1, h4, h5⟩ := h
  refine ⟨Rl_page' h1 ?_ ?_ ?_ ?_ ?_ ?_ ?_ ?_ ?_, fun j hj => crd_ag' hj (h4 j hj) ?_ ?_ ?_ ?_ ?_ ?_, ?_⟩ <;> intros <;> simp (disch := omega) only [zn_eq, zj_eq, zb1_eq, zb2_eq, zb3_eq, zbr_l, zbr_r, zc_in, iI_add, iI_sub, iI_mul, iI_neg, iI_lt, iI_le, iI_eq, zwr_zwr, zwa_zwa, zwr_s, zwr_o, zwr_O, zwr_k, zwa_s, zwa_S, zwa_o, zwa_O, upd_s, upd_o, if_true, if_false, if_pos, if_neg, iI_natN, iI_nat, Int.toNat_natCast, c_isRow1, c_isRow0, c_isCard1, c_isCard0, r_within1, r_within0, r_isRow1, r_isRow0, r_isCard1, r_isCard0, li_0, li_1, li_2, li_3, li_4, li_5, li_6, li_7, li_8, li_9, li_10, li_11, li_12, li_15, li_16, li_18, li_22, li_23, li_24, li_28, li_31, li_32, li_33, li_40, li_52, li_53, li_63, li_64, li_85, li_86, li_96, li_99, li_100, li_127, li_128, li_200, li_201, li_384, li_768, li_1023, li_5376, li_6144]
/-! one dot -/
def drw (x : Int32) (r : Nat) (b : Bool) : Int32 := if b = true then x ||| ((1 : Int32) <<< (iI r &&& 31)) else x &&& (((1 : Int32) <<< (iI r &&& 31)) ^^^ (-1))
theorem bt_1s {r i : Nat} (hr : r < 32) (hi : i < 32) : bt ((1 : Int32) <<< (iI r &&& 31)) i = decide (i = r) := by
  rw [← nI_iI, b_shl r hr _ hi]
  have h1 : ∀ i, i < 32 → bt (1 : Int32) i = decide (i = 0) := by decide +kernel
  rw [h1 (i - r) (by omega)]
  by_cases h : i = r
  · subst h; simp
  · rw [decide_eq_false h]
    by_cases h2 : r ≤ i
    · rw [decide_eq_false (p := i - r = 0) (by omega), Bool.and_false]
    · rw [decide_eq_false h2]; rfl
theorem bt_drw {x : Int32} {r i : Nat} {b : Bool} (hr : r < 32) (hi : i < 32) : bt (drw x r b) i = if i = r then b else bt x i := by
  unfold drw
  cases b
  · rw [if_neg (by decide), b_and, b_xor, bt_1s hr hi, b_m1 i hi]
    by_cases h : i = r
    · rw [if_pos h, decide_eq_true h]; simp
    · rw [if_neg h, decide_eq_false h]; simp
  · rw [if_pos rfl, b_or, bt_1s hr hi]
    by_cases h : i = r
    · rw [if_pos h, decide_eq_true h, Bool.or_true]
    · rw [if_neg h, decide_eq_false h, Bool.or_false]
theorem c_draw {M : zMem} {w : Nat} (hw : w ≤ 24) (h3 : M 1 3 = iI w) {k r : Nat} (hk : k < w) (hr : r < 32) (b : Bool) : fX4_draw (iI k) (iI r) (b2 b) M = some (zwr M 2 k (drw (M 2 k) r b)) := by
  unfold fX4_draw fX4_hasColumn
  rw [h3]
  cases b
  · simp (disch := omega) only [zn_eq, zj_eq, zb1_eq, zb2_eq, zb3_eq, zbr_l, zbr_r, zc_in, iI_add, iI_sub, iI_mul, iI_neg, iI_lt, iI_le, iI_eq, zwr_zwr, zwa_zwa, zwr_s, zwr_o, zwr_O, zwr_k, zwa_s, zwa_S, zwa_o, zwa_O, upd_s, upd_o, if_true, if_false, if_pos, if_neg, iI_natN, iI_nat, Int.toNat_natCast, c_isRow1, c_isRow0, c_isCard1, c_isCard0, r_within1, r_within0, r_isRow1, r_isRow0, r_isCard1, r_isCard0, li_0, li_1, li_2, li_3, li_4, li_5, li_6, li_7, li_8, li_9, li_10, li_11, li_12, li_15, li_16, li_18, li_22, li_23, li_24, li_28, li_31, li_32, li_33, li_40, li_52, li_53, li_63, li_64, li_85, li_86, li_96, li_99, li_100, li_127, li_128, li_200, li_201, li_384, li_768, li_1023, li_5376, li_6144, show b2 false = iI 0 from rfl, show drw (M 2 k) r false = M 2 k &&& (((1 : Int32) <<< (iI r &&& 31)) ^^^ (-1)) from rfl]
  · simp (disch := omega) only [zn_eq, zj_eq, zb1_eq, zb2_eq, zb3_eq, zbr_l, zbr_r, zc_in, iI_add, iI_sub, iI_mul, iI_neg, iI_lt, iI_le, iI_eq, zwr_zwr, zwa_zwa, zwr_s, zwr_o, zwr_O, zwr_k, zwa_s, zwa_S, zwa_o, zwa_O, upd_s, upd_o, if_true, if_false, if_pos, if_neg, iI_natN, iI_nat, Int.toNat_natCast, c_isRow1, c_isRow0, c_isCard1, c_isCard0, r_within1, r_within0, r_isRow1, r_isRow0, r_isCard1, r_isCard0, li_0, li_1, li_2, li_3, li_4, li_5, li_6, li_7, li_8, li_9, li_10, li_11, li_12, li_15, li_16, li_18, li_22, li_23, li_24, li_28, li_31, li_32, li_33, li_40, li_52, li_53, li_63, li_64, li_85, li_86, li_96, li_99, li_100, li_127, li_128, li_200, li_201, li_384, li_768, li_1023, li_5376, li_6144, show b2 true = iI 1 from rfl, show drw (M 2 k) r true = M 2 k ||| ((1 : Int32) <<< (iI r &&& 31)) from rfl]
def setP (P : Nat → Nat → Bool) (k0 r0 : Nat) (b : Bool) : Nat → Nat → Bool := fun k r => if k = k0 ∧ r = r0 then b else P k r
theorem st_dot {M : zMem} (h : Rl M) (p q v : Int32) : ∃ r M1 M2, fX6_dot p q v M = some (r, M1) ∧ fX7_dot p q v M1 = some (r, M2) ∧ Rl M2 := by
  obtain ⟨k, k1, k2, rfl⟩ := iI_ex p
  obtain ⟨r, r1, r2, rfl⟩ := iI_ex q
  obtain ⟨z, z1, z2, rfl⟩ := iI_ex v
  have hR := h
  obtain ⟨⟨w, P, h1, h2, n, x, h3, hx, m1, m2, m3, -⟩, h4, h5⟩ := h
  have hw := h1.2.1
  by_cases hk : 0 ≤ k ∧ k < w
  · by_cases hr : 0 ≤ r ∧ r < 32
    · by_cases hz : z = 0 ∨ z = 1
      · obtain ⟨kn, rfl⟩ : ∃ n : Nat, k = n := ⟨k.toNat, by omega⟩
        obtain ⟨rn, rfl⟩ : ∃ n : Nat, r = n := ⟨r.toNat, by omega⟩
        obtain ⟨b, hb⟩ : ∃ b : Bool, iI z = b2 b := by
          rcases hz with rfl | rfl
          · exact ⟨false, rfl⟩
          · exact ⟨true, rfl⟩
        have e1 : fX6_dot (iI kn) (iI rn) (iI z) M = some (b2 (P kn rn), zwr (zwr M 1 4 (iI 0)) 2 kn (drw (M 2 kn) rn b)) := by
          have ea : ∀ y : Bool, (if b2 y = (0 : Int32) then (0 : Int32) else 1) = b2 y := by intro y; cases y <;> rfl
          have eb : (if b2 b = (1 : Int32) then (1 : Int32) else 0) = b2 b := by cases b <;> rfl
          have ed := c_draw (M := zwr M 1 4 (iI 0)) (w := w) hw (by simp (disch := omega) only [zn_eq, zj_eq, zb1_eq, zb2_eq, zb3_eq, zbr_l, zbr_r, zc_in, iI_add, iI_sub, iI_mul, iI_neg, iI_lt, iI_le, iI_eq, zwr_zwr, zwa_zwa, zwr_s, zwr_o, zwr_O, zwr_k, zwa_s, zwa_S, zwa_o, zwa_O, upd_s, upd_o, if_true, if_false, if_pos, if_neg, iI_natN, iI_nat, Int.toNat_natCast, c_isRow1, c_isRow0, c_isCard1, c_isCard0, r_within1, r_within0, r_isRow1, r_isRow0, r_isCard1, r_isCard0, li_0, li_1, li_2, li_3, li_4, li_5, li_6, li_7, li_8, li_9, li_10, li_11, li_12, li_15, li_16, li_18, li_22, li_23, li_24, li_28, li_31, li_32, li_33, li_40, li_52, li_53, li_63, li_64, li_85, li_86, li_96, li_99, li_100, li_127, li_128, li_200, li_201, li_384, li_768, li_1023, li_5376, li_6144]; exact h1.2.2.1) (k := kn) (r := rn) (by omega) (by omega) b
          have e0 : zwr M 1 4 (iI 0) 2 kn = M 2 kn := by simp (disch := omega) only [zn_eq, zj_eq, zb1_eq, zb2_eq, zb3_eq, zbr_l, zbr_r, zc_in, iI_add, iI_sub, iI_mul, iI_neg, iI_lt, iI_le, iI_eq, zwr_zwr, zwa_zwa, zwr_s, zwr_o, zwr_O, zwr_k, zwa_s, zwa_S, zwa_o, zwa_O, upd_s, upd_o, if_true, if_false, if_pos, if_neg, iI_natN, iI_nat, Int.toNat_natCast, c_isRow1, c_isRow0, c_isCard1, c_isCard0, r_within1, r_within0, r_isRow1, r_isRow0, r_isCard1, r_isCard0, li_0, li_1, li_2, li_3, li_4, li_5, li_6, li_7, li_8, li_9, li_10, li_11, li_12, li_15, li_16, li_18, li_22, li_23, li_24, li_28, li_31, li_32, li_33, li_40, li_52, li_53, li_63, li_64, li_85, li_86, li_96, li_99, li_100, li_127, li_128, li_200, li_201, li_384, li_768, li_1023, li_5376, li_6144]
          rw [e0] at ed
          unfold fX6_dot
          rw [c_col1 h1 hk.1 hk.2, zb1_eq, if_neg (by decide), c_isRow1 hr.1 hr.2, zb1_eq, if_neg (by decide), c_inkedN h1 (by omega) (by omega), hb]
          simp only [zb1_eq, zn_eq, ea, eb]
          have ef : fX4_forgetMoves M = some (zwr M 1 4 (iI 0)) := rfl
          rw [ef]
          simp only [zb1_eq]
          rw [ed]
          simp only [zb1_eq]
          cases b <;> rfl
        have e2 : fX7_dot (iI kn) (iI rn) (iI z) (zwr (zwr M 1 4 (iI 0)) 2 kn (drw (M 2 kn) rn b)) = some (b2 (P kn rn), zwr (zwr (zwr (zwr M 1 4 (iI 0)) 2 kn (drw (M 2 kn) rn b)) 61 (32 * kn + rn) (b2 b)) 60 10 (iI 0)) := by
          have hg : rPg (zwr (zwr M 1 4 (iI 0)) 2 kn (drw (M 2 kn) rn b)) w P := by
            obtain ⟨a1, a2, a3, a4, a5⟩ := h2
            exact ⟨a1, a2, by simp (disch := omega) only [zn_eq, zj_eq, zb1_eq, zb2_eq, zb3_eq, zbr_l, zbr_r, zc_in, iI_add, iI_sub, iI_mul, iI_neg, iI_lt, iI_le, iI_eq, zwr_zwr, zwa_zwa, zwr_s, zwr_o, zwr_O, zwr_k, zwa_s, zwa_S, zwa_o, zwa_O, upd_s, upd_o, if_true, if_false, if_pos, if_neg, iI_natN, iI_nat, Int.toNat_natCast, c_isRow1, c_isRow0, c_isCard1, c_isCard0, r_within1, r_within0, r_isRow1, r_isRow0, r_isCard1, r_isCard0, li_0, li_1, li_2, li_3, li_4, li_5, li_6, li_7, li_8, li_9, li_10, li_11, li_12, li_15, li_16, li_18, li_22, li_23, li_24, li_28, li_31, li_32, li_33, li_40, li_52, li_53, li_63, li_64, li_85, li_86, li_96, li_99, li_100, li_127, li_128, li_200, li_201, li_384, li_768, li_1023, li_5376, li_6144]; exact a3, fun k hk r hr => by simp (disch := omega) only [zn_eq, zj_eq, zb1_eq, zb2_eq, zb3_eq, zbr_l, zbr_r, zc_in, iI_add, iI_sub, iI_mul, iI_neg, iI_lt, iI_le, iI_eq, zwr_zwr, zwa_zwa, zwr_s, zwr_o, zwr_O, zwr_k, zwa_s, zwa_S, zwa_o, zwa_O, upd_s, upd_o, if_true, if_false, if_pos, if_neg, iI_natN, iI_nat, Int.toNat_natCast, c_isRow1, c_isRow0, c_isCard1, c_isCard0, r_within1, r_within0, r_isRow1, r_isRow0, r_isCard1, r_isCard0, li_0, li_1, li_2, li_3, li_4, li_5, li_6, li_7, li_8, li_9, li_10, li_11, li_12, li_15, li_16, li_18, li_22, li_23, li_24, li_28, li_31, li_32, li_33, li_40, li_52, li_53, li_63, li_64, li_85, li_86, li_96, li_99, li_100, li_127, li_128, li_200, li_201, li_384, li_768, li_1023, li_5376, li_6144]; exact a4 k hk r hr, a5⟩
          have ha := hg.2.2.2.1 kn (by omega) rn (by omega)
          have ea : ∀ y : Bool, (if b2 y = (0 : Int32) then (0 : Int32) else 1) = b2 y := by intro y; cases y <;> rfl
          have eb : vp_nar .boolean (if b2 b = (1 : Int32) then (1 : Int32) else 0) = b2 b := by cases b <;> decide
          unfold fX7_dot
          rw [r_col1 hg hk.1 hk.2, zb1_eq, if_neg (by decide), r_isRow1 hr.1 hr.2, zb1_eq, if_neg (by decide), li_0, li_1, r_within1 (by omega) (by omega) (by omega) (by omega), zb1_eq, if_neg (by decide), li_32, iI_mul, iI_add, zc_in (by omega) (by omega) (by omega), iI_nat (by omega) (by omega), show ((32 : Int) * kn + rn).toNat = 32 * kn + rn by omega, ha, zn_eq, zc_in (by omega) (by omega) (by omega), zn_eq, zn_eq, ← li_0, ← li_1, ea, hb, eb]
        refine ⟨_, _, _, e1, e2, ⟨w, setP P kn rn b, ⟨h1.1, hw, ?_, fun k' hk' r' hr' => ?_, fun k' r' h' => ?_⟩, ⟨h1.1, hw, ?_, fun k' hk' r' hr' => ?_, fun k' r' h' => ?_⟩, mvs_0 (x := x) hx ?_ ?_ ?_⟩, ?_, ?_⟩
        · simp (disch := omega) only [zn_eq, zj_eq, zb1_eq, zb2_eq, zb3_eq, zbr_l, zbr_r, zc_in, iI_add, iI_sub, iI_mul, iI_neg, iI_lt, iI_le, iI_eq, zwr_zwr, zwa_zwa, zwr_s, zwr_o, zwr_O, zwr_k, zwa_s, zwa_S, zwa_o, zwa_O, upd_s, upd_o, if_true, if_false, if_pos, if_neg, iI_natN, iI_nat, Int.toNat_natCast, c_isRow1, c_isRow0, c_isCard1, c_isCard0, r_within1, r_within0, r_isRow1, r_isRow0, r_isCard1, r_isCard0, li_0, li_1, li_2, li_3, li_4, li_5, li_6, li_7, li_8, li_9, li_10, li_11, li_12, li_15, li_16, li_18, li_22, li_23, li_24, li_28, li_31, li_32, li_33, li_40, li_52, li_53, li_63, li_64, li_85, li_86, li_96, li_99, li_100, li_127, li_128, li_200, li_201, li_384, li_768, li_1023, li_5376, li_6144]; exact h1.2.2.1
        · by_cases e : k' = kn
          · subst e
            simp (disch := omega) only [zn_eq, zj_eq, zb1_eq, zb2_eq, zb3_eq, zbr_l, zbr_r, zc_in, iI_add, iI_sub, iI_mul, iI_neg, iI_lt, iI_le, iI_eq, zwr_zwr, zwa_zwa, zwr_s, zwr_o, zwr_O, zwr_k, zwa_s, zwa_S, zwa_o, zwa_O, upd_s, upd_o, if_true, if_false, if_pos, if_neg, iI_natN, iI_nat, Int.toNat_natCast, c_isRow1, c_isRow0, c_isCard1, c_isCard0, r_within1, r_within0, r_isRow1, r_isRow0, r_isCard1, r_isCard0, li_0, li_1, li_2, li_3, li_4, li_5, li_6, li_7, li_8, li_9, li_10, li_11, li_12, li_15, li_16, li_18, li_22, li_23, li_24, li_28, li_31, li_32, li_33, li_40, li_52, li_53, li_63, li_64, li_85, li_86, li_96, li_99, li_100, li_127, li_128, li_200, li_201, li_384, li_768, li_1023, li_5376, li_6144]
            rw [bt_drw (by omega) hr', h1.2.2.2.1 k' hk' r' hr']
            unfold setP
            by_cases e2 : r' = rn
            · rw [if_pos e2, if_pos ⟨rfl, e2⟩]
            · rw [if_neg e2, if_neg (fun q => e2 q.2)]
          · simp (disch := omega) only [zn_eq, zj_eq, zb1_eq, zb2_eq, zb3_eq, zbr_l, zbr_r, zc_in, iI_add, iI_sub, iI_mul, iI_neg, iI_lt, iI_le, iI_eq, zwr_zwr, zwa_zwa, zwr_s, zwr_o, zwr_O, zwr_k, zwa_s, zwa_S, zwa_o, zwa_O, upd_s, upd_o, if_true, if_false, if_pos, if_neg, iI_natN, iI_nat, Int.toNat_natCast, c_isRow1, c_isRow0, c_isCard1, c_isCard0, r_within1, r_within0, r_isRow1, r_isRow0, r_isCard1, r_isCard0, li_0, li_1, li_2, li_3, li_4, li_5, li_6, li_7, li_8, li_9, li_10, li_11, li_12, li_15, li_16, li_18, li_22, li_23, li_24, li_28, li_31, li_32, li_33, li_40, li_52, li_53, li_63, li_64, li_85, li_86, li_96, li_99, li_100, li_127, li_128, li_200, li_201, li_384, li_768, li_1023, li_5376, li_6144]
            rw [h1.2.2.2.1 k' hk' r' hr']
            unfold setP
            rw [if_neg (fun q => e q.1)]
        · unfold setP at h'
          by_cases e : k' = kn ∧ r' = rn
          · omega
          · rw [if_neg e] at h'; exact h1.2.2.2.2 _ _ h'
        · simp (disch := omega) only [zn_eq, zj_eq, zb1_eq, zb2_eq, zb3_eq, zbr_l, zbr_r, zc_in, iI_add, iI_sub, iI_mul, iI_neg, iI_lt, iI_le, iI_eq, zwr_zwr, zwa_zwa, zwr_s, zwr_o, zwr_O, zwr_k, zwa_s, zwa_S, zwa_o, zwa_O, upd_s, upd_o, if_true, if_false, if_pos, if_neg, iI_natN, iI_nat, Int.toNat_natCast, c_isRow1, c_isRow0, c_isCard1, c_isCard0, r_within1, r_within0, r_isRow1, r_isRow0, r_isCard1, r_isCard0, li_0, li_1, li_2, li_3, li_4, li_5, li_6, li_7, li_8, li_9, li_10, li_11, li_12, li_15, li_16, li_18, li_22, li_23, li_24, li_28, li_31, li_32, li_33, li_40, li_52, li_53, li_63, li_64, li_85, li_86, li_96, li_99, li_100, li_127, li_128, li_200, li_201, li_384, li_768, li_1023, li_5376, li_6144]; exact h2.2.2.1
        · unfold setP
          by_cases e : k' = kn ∧ r' = rn
          · rw [if_pos e, e.1, e.2]; simp (disch := omega) only [zn_eq, zj_eq, zb1_eq, zb2_eq, zb3_eq, zbr_l, zbr_r, zc_in, iI_add, iI_sub, iI_mul, iI_neg, iI_lt, iI_le, iI_eq, zwr_zwr, zwa_zwa, zwr_s, zwr_o, zwr_O, zwr_k, zwa_s, zwa_S, zwa_o, zwa_O, upd_s, upd_o, if_true, if_false, if_pos, if_neg, iI_natN, iI_nat, Int.toNat_natCast, c_isRow1, c_isRow0, c_isCard1, c_isCard0, r_within1, r_within0, r_isRow1, r_isRow0, r_isCard1, r_isCard0, li_0, li_1, li_2, li_3, li_4, li_5, li_6, li_7, li_8, li_9, li_10, li_11, li_12, li_15, li_16, li_18, li_22, li_23, li_24, li_28, li_31, li_32, li_33, li_40, li_52, li_53, li_63, li_64, li_85, li_86, li_96, li_99, li_100, li_127, li_128, li_200, li_201, li_384, li_768, li_1023, li_5376, li_6144]
          · rw [if_neg e]; simp (disch := omega) only [zn_eq, zj_eq, zb1_eq, zb2_eq, zb3_eq, zbr_l, zbr_r, zc_in, iI_add, iI_sub, iI_mul, iI_neg, iI_lt, iI_le, iI_eq, zwr_zwr, zwa_zwa, zwr_s, zwr_o, zwr_O, zwr_k, zwa_s, zwa_S, zwa_o, zwa_O, upd_s, upd_o, if_true, if_false, if_pos, if_neg, iI_natN, iI_nat, Int.toNat_natCast, c_isRow1, c_isRow0, c_isCard1, c_isCard0, r_within1, r_within0, r_isRow1, r_isRow0, r_isCard1, r_isCard0, li_0, li_1, li_2, li_3, li_4, li_5, li_6, li_7, li_8, li_9, li_10, li_11, li_12, li_15, li_16, li_18, li_22, li_23, li_24, li_28, li_31, li_32, li_33, li_40, li_52, li_53, li_63, li_64, li_85, li_86, li_96, li_99, li_100, li_127, li_128, li_200, li_201, li_384, li_768, li_1023, li_5376, li_6144]; exact h2.2.2.2.1 k' hk' r' hr'
        · unfold setP at h'
          by_cases e : k' = kn ∧ r' = rn
          · omega
          · rw [if_neg e] at h'; exact h1.2.2.2.2 _ _ h'
        · simp (disch := omega) only [zn_eq, zj_eq, zb1_eq, zb2_eq, zb3_eq, zbr_l, zbr_r, zc_in, iI_add, iI_sub, iI_mul, iI_neg, iI_lt, iI_le, iI_eq, zwr_zwr, zwa_zwa, zwr_s, zwr_o, zwr_O, zwr_k, zwa_s, zwa_S, zwa_o, zwa_O, upd_s, upd_o, if_true, if_false, if_pos, if_neg, iI_natN, iI_nat, Int.toNat_natCast, c_isRow1, c_isRow0, c_isCard1, c_isCard0, r_within1, r_within0, r_isRow1, r_isRow0, r_isCard1, r_isCard0, li_0, li_1, li_2, li_3, li_4, li_5, li_6, li_7, li_8, li_9, li_10, li_11, li_12, li_15, li_16, li_18, li_22, li_23, li_24, li_28, li_31, li_32, li_33, li_40, li_52, li_53, li_63, li_64, li_85, li_86, li_96, li_99, li_100, li_127, li_128, li_200, li_201, li_384, li_768, li_1023, li_5376, li_6144]
        · simp (disch := omega) only [zn_eq, zj_eq, zb1_eq, zb2_eq, zb3_eq, zbr_l, zbr_r, zc_in, iI_add, iI_sub, iI_mul, iI_neg, iI_lt, iI_le, iI_eq, zwr_zwr, zwa_zwa, zwr_s, zwr_o, zwr_O, zwr_k, zwa_s, zwa_S, zwa_o, zwa_O, upd_s, upd_o, if_true, if_false, if_pos, if_neg, iI_natN, iI_nat, Int.toNat_natCast, c_isRow1, c_isRow0, c_isCard1, c_isCard0, r_within1, r_within0, r_isRow1, r_isRow0, r_isCard1, r_isCard0, li_0, li_1, li_2, li_3, li_4, li_5, li_6, li_7, li_8, li_9, li_10, li_11, li_12, li_15, li_16, li_18, li_22, li_23, li_24, li_28, li_31, li_32, li_33, li_40, li_52, li_53, li_63, li_64, li_85, li_86, li_96, li_99, li_100, li_127, li_128, li_200, li_201, li_384, li_768, li_1023, li_5376, li_6144]
        · simp (disch := omega) only [zn_eq, zj_eq, zb1_eq, zb2_eq, zb3_eq, zbr_l, zbr_r, zc_in, iI_add, iI_sub, iI_mul, iI_neg, iI_lt, iI_le, iI_eq, zwr_zwr, zwa_zwa, zwr_s, zwr_o, zwr_O, zwr_k, zwa_s, zwa_S, zwa_o, zwa_O, upd_s, upd_o, if_true, if_false, if_pos, if_neg, iI_natN, iI_nat, Int.toNat_natCast, c_isRow1, c_isRow0, c_isCard1, c_isCard0, r_within1, r_within0, r_isRow1, r_isRow0, r_isCard1, r_isCard0, li_0, li_1, li_2, li_3, li_4, li_5, li_6, li_7, li_8, li_9, li_10, li_11, li_12, li_15, li_16, li_18, li_22, li_23, li_24, li_28, li_31, li_32, li_33, li_40, li_52, li_53, li_63, li_64, li_85, li_86, li_96, li_99, li_100, li_127, li_128, li_200, li_201, li_384, li_768, li_1023, li_5376, li_6144]; exact m3
        · intro j hj
          refine crd_ag' hj (h4 j hj) ?_ ?_ ?_ ?_ ?_ ?_ <;> intros <;> simp (disch := omega) only [zn_eq, zj_eq, zb1_eq, zb2_eq, zb3_eq, zbr_l, zbr_r, zc_in, iI_add, iI_sub, iI_mul, iI_neg, iI_lt, iI_le, iI_eq, zwr_zwr, zwa_zwa, zwr_s, zwr_o, zwr_O, zwr_k, zwa_s, zwa_S, zwa_o, zwa_O, upd_s, upd_o, if_true, if_false, if_pos, if_neg, iI_natN, iI_nat, Int.toNat_natCast, c_isRow1, c_isRow0, c_isCard1, c_isCard0, r_within1, r_within0, r_isRow1, r_isRow0, r_isCard1, r_isCard0, li_0, li_1, li_2, li_3, li_4, li_5, li_6, li_7, li_8, li_9, li_10, li_11, li_12, li_15, li_16, li_18, li_22, li_23, li_24, li_28, li_31, li_32, li_33, li_40, li_52, li_53, li_63, li_64, li_85, li_86, li_96, li_99, li_100, li_127, li_128, li_200, li_201, li_384, li_768, li_1023, li_5376, li_6144]
        · simp (disch := omega) only [zn_eq, zj_eq, zb1_eq, zb2_eq, zb3_eq, zbr_l, zbr_r, zc_in, iI_add, iI_sub, iI_mul, iI_neg, iI_lt, iI_le, iI_eq, zwr_zwr, zwa_zwa, zwr_s, zwr_o, zwr_O, zwr_k, zwa_s, zwa_S, zwa_o, zwa_O, upd_s, upd_o, if_true, if_false, if_pos, if_neg, iI_natN, iI_nat, Int.toNat_natCast, c_isRow1, c_isRow0, c_isCard1, c_isCard0, r_within1, r_within0, r_isRow1, r_isRow0, r_isCard1, r_isCard0, li_0, li_1, li_2, li_3, li_4, li_5, li_6, li_7, li_8, li_9, li_10, li_11, li_12, li_15, li_16, li_18, li_22, li_23, li_24, li_28, li_31, li_32, li_33, li_40, li_52, li_53, li_63, li_64, li_85, li_86, li_96, li_99, li_100, li_127, li_128, li_200, li_201, li_384, li_768, li_1023, li_5376, li_6144]; exact h5
      · refine ⟨iI (-2), M, M, ?_, ?_, hR⟩
        · unfold fX6_dot
          rw [c_col1 h1 hk.1 hk.2, zb1_eq, if_neg (by decide), c_isRow1 hr.1 hr.2, zb1_eq, if_neg (by decide), li_0, feq_n (by omega) (by omega) (by omega), li_1, feq_n (by omega) (by omega) (by omega)]; rfl
        · unfold fX7_dot
          rw [r_col1 h2 hk.1 hk.2, zb1_eq, if_neg (by decide), r_isRow1 hr.1 hr.2, zb1_eq, if_neg (by decide), li_0, li_1, r_within0 (by omega) (by omega) (by omega) (by omega), zb1_eq]; rfl
    · refine ⟨iI (-1), M, M, ?_, ?_, hR⟩
      · unfold fX6_dot
        rw [c_col1 h1 hk.1 hk.2, zb1_eq, if_neg (by decide), c_isRow0 hr r1 r2, zb1_eq]; rfl
      · unfold fX7_dot
        rw [r_col1 h2 hk.1 hk.2, zb1_eq, if_neg (by decide), r_isRow0 hr r1 r2, zb1_eq]; rfl
  · refine ⟨iI (-1), M, M, ?_, ?_, hR⟩
    · unfold fX6_dot
      rw [c_col0 h1 hk k1 k2, zb1_eq]; rfl
    · unfold fX7_dot
      rw [r_col0 h2 hk k1 k2, zb1_eq]; rfl
