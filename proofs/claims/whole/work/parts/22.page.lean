/-! the page: what both sides hold -/
def b2 (b : Bool) : Int32 := if b then 1 else 0
/-- the class's page: w columns, dots P -/
def cPg (M : zMem) (w : Nat) (P : Nat → Nat → Bool) : Prop := 1 ≤ w ∧ w ≤ 24 ∧ M 1 3 = iI w ∧ (∀ k, k < 24 → ∀ r, r < 32 → bt (M 2 k) r = P k r) ∧ ∀ k r, P k r = true → k < w ∧ r < 32
/-- the reference's page -/
def rPg (M : zMem) (w : Nat) (P : Nat → Nat → Bool) : Prop := 1 ≤ w ∧ w ≤ 24 ∧ M 60 1 = iI w ∧ (∀ k, k < 24 → ∀ r, r < 32 → M 61 (32 * k + r) = b2 (P k r)) ∧ ∀ k r, P k r = true → k < w ∧ r < 32
/-- a dot, asked by whole numbers -/
def pI (P : Nat → Nat → Bool) (k r : Int) : Bool := decide (0 ≤ k) && (decide (0 ≤ r) && P k.toNat r.toNat)
theorem b2_z (b : Bool) : b2 b = 0 ↔ b = false := by cases b <;> decide
theorem b2_i (b : Bool) : b2 b = iI (if b then 1 else 0) := by cases b <;> rfl
theorem b2_01 (b : Bool) : z01 (b2 b) = true := by cases b <;> decide
theorem b2_nar (b : Bool) : vp_nar .boolean (b2 b) = b2 b := by cases b <;> decide
theorem nar0 : vp_nar .boolean 0 = 0 := by decide
theorem nar1 : vp_nar .boolean 1 = 1 := by decide
theorem ite_b2 (b : Bool) (x y : Int32) : (if b2 b = 0 then x else y) = if b = true then y else x := by cases b <;> rfl
theorem c_isRow (z : Int) (h1 : -2147483648 ≤ z) (h2 : z ≤ 2147483647) : fX6_isRow (iI z) = some (b2 (decide (0 ≤ z) && decide (z < 32))) := by
  unfold fX6_isRow
  simp (disch := omega) only [zn_eq, zj_eq, zb1_eq, zb2_eq, zb3_eq, zbr_l, zbr_r, zc_in, iI_add, iI_sub, iI_mul, iI_neg, iI_lt, iI_le, iI_eq, zwr_s, zwr_o, zwr_O, zwr_k, zwa_s, zwa_S, zwa_o, zwa_O, upd_s, upd_o, li_0, li_1, li_2, li_3, li_4, li_5, li_6, li_7, li_8, li_9, li_10, li_11, li_12, li_15, li_16, li_18, li_22, li_23, li_24, li_28, li_31, li_32, li_33, li_40, li_52, li_53, li_63, li_64, li_85, li_86, li_96, li_99, li_100, li_127, li_128, li_200, li_201, li_384, li_768, li_1023, li_5376, li_6144]
  by_cases a : z < 0
  · rw [if_pos a, decide_eq_false (by omega)]; rfl
  · by_cases b : 32 ≤ z
    · rw [if_neg a, if_pos b, decide_eq_false (p := z < 32) (by omega)]; simp [b2]; rfl
    · rw [if_neg a, if_neg b, decide_eq_true (by omega), decide_eq_true (by omega)]; rfl
theorem c_hasColumn {M : zMem} {w : Nat} {P : Nat → Nat → Bool} (hP : cPg M w P) (z : Int) (h1 : -2147483648 ≤ z) (h2 : z ≤ 2147483647) : fX4_hasColumn (iI z) M = some (b2 (decide (0 ≤ z) && decide (z < w))) := by
  obtain ⟨w1, w2, w3, -, -⟩ := hP
  unfold fX4_hasColumn
  rw [w3]
  simp (disch := omega) only [zn_eq, zj_eq, zb1_eq, zb2_eq, zb3_eq, zbr_l, zbr_r, zc_in, iI_add, iI_sub, iI_mul, iI_neg, iI_lt, iI_le, iI_eq, zwr_s, zwr_o, zwr_O, zwr_k, zwa_s, zwa_S, zwa_o, zwa_O, upd_s, upd_o, li_0, li_1, li_2, li_3, li_4, li_5, li_6, li_7, li_8, li_9, li_10, li_11, li_12, li_15, li_16, li_18, li_22, li_23, li_24, li_28, li_31, li_32, li_33, li_40, li_52, li_53, li_63, li_64, li_85, li_86, li_96, li_99, li_100, li_127, li_128, li_200, li_201, li_384, li_768, li_1023, li_5376, li_6144]
  by_cases a : z < 0
  · rw [if_pos a, decide_eq_false (by omega)]; rfl
  · by_cases b : (w : Int) ≤ z
    · rw [if_neg a, if_pos b, decide_eq_false (p := z < w) (by omega)]; simp [b2]; rfl
    · rw [if_neg a, if_neg b, decide_eq_true (by omega), decide_eq_true (by omega)]; rfl
theorem c_dots {M : zMem} {w : Nat} {P : Nat → Nat → Bool} (hP : cPg M w P) (z : Int) (h1 : -2147483648 ≤ z) (h2 : z ≤ 2147483647) : fX4_dots (iI z) M = some (if 0 ≤ z ∧ z < w then M 2 z.toNat else 0) := by
  have hw := hP.2.1
  unfold fX4_dots
  rw [c_hasColumn hP z h1 h2, zb1_eq, zj_eq]
  by_cases h : 0 ≤ z ∧ z < w
  · rw [if_pos h, decide_eq_true h.1, decide_eq_true h.2]
    rw [if_neg (by decide), zc_in h.1 (by omega) (by omega), iI_nat h.1 h2]
  · rw [if_neg h, if_pos]
    rcases (show z < 0 ∨ (w : Int) ≤ z by omega) with a | a
    · rw [decide_eq_false (by omega)]; rfl
    · rw [decide_eq_false (p := z < w) (by omega)]; simp [b2]
theorem c_dotsN {M : zMem} {w : Nat} {P : Nat → Nat → Bool} (hP : cPg M w P) {k : Nat} (hk : k < w) : fX4_dots (iI k) M = some (M 2 k) := by
  have := hP.2.1
  rw [c_dots hP k (by omega) (by omega), if_pos (by omega)]; rfl
theorem bit_ush {x : Int32} {r : Nat} (hr : r < 32) : (zush x (iI r) &&& 1 = 1) ↔ bt x r = true := by
  rw [show iI (r : Int) = nI r from (nI_iI r).symm]
  constructor
  · intro h
    have := b_ushr r hr x 0
    rw [show bt x (r + 0) = bt x r from rfl] at this
    rw [← this]
    have h2 : bt (zush x (nI r) &&& 1) 0 = true := by rw [h]; decide
    rw [b_and] at h2
    simpa using (Bool.and_eq_true _ _ ▸ h2).1
  · intro h
    apply b_ext
    intro i hi
    rw [b_and]
    by_cases h0 : i = 0
    · subst h0
      rw [show bt (zush x (nI r)) 0 = bt x (r + 0) from b_ushr r hr x 0, show r + 0 = r from rfl, h]; rfl
    · have : ∀ i, i < 32 → i ≠ 0 → bt (1 : Int32) i = false := by decide +kernel
      rw [this i hi h0, Bool.and_false]
theorem c_inked {M : zMem} {w : Nat} {P : Nat → Nat → Bool} (hP : cPg M w P) (k r : Int) (k1 : -2147483648 ≤ k) (k2 : k ≤ 2147483647) (r1 : -2147483648 ≤ r) (r2 : r ≤ 2147483647) : fX4_inked (iI k) (iI r) M = some (b2 (pI P k r)) := by
  have hw := hP.2.1
  unfold fX4_inked
  rw [c_isRow r r1 r2, zb1_eq, zj_eq]
  by_cases h : 0 ≤ r ∧ r < 32
  · rw [decide_eq_true h.1, decide_eq_true h.2, if_neg (by decide), c_dots hP k k1 k2, zb1_eq]
    have e : iI r = iI (r.toNat : Int) := by congr 1; omega
    rw [e]
    simp only [bit_ush (show r.toNat < 32 by omega)]
    by_cases hk : 0 ≤ k ∧ k < w
    · rw [if_pos hk]
      have hb := hP.2.2.2.1 k.toNat (by omega) r.toNat (by omega)
      rw [hb]
      unfold pI
      rw [decide_eq_true hk.1, decide_eq_true h.1]
      cases P k.toNat r.toNat <;> rfl
    · rw [if_neg hk, b_0, if_neg (by decide)]
      have : pI P k r = false := by
        unfold pI
        cases hp : P k.toNat r.toNat with
        | false => simp
        | true =>
          have := (hP.2.2.2.2 _ _ hp).1
          rw [decide_eq_false (p := 0 ≤ k) (by omega)]; rfl
      rw [this]; rfl
  · have : pI P k r = false := by
      unfold pI
      cases hp : P k.toNat r.toNat with
      | false => simp
      | true =>
        have := (hP.2.2.2.2 _ _ hp).2
        rw [decide_eq_false (p := 0 ≤ r) (by omega)]; simp
    rw [this, if_pos]
    · rfl
    · rcases (show r < 0 ∨ (32 : Int) ≤ r by omega) with a | a
      · rw [decide_eq_false (by omega)]; rfl
      · rw [decide_eq_false (p := r < 32) (by omega)]; simp [b2]
theorem pI_nat (P : Nat → Nat → Bool) (k r : Nat) : pI P k r = P k r := by unfold pI; simp
theorem c_inkedN {M : zMem} {w : Nat} {P : Nat → Nat → Bool} (hP : cPg M w P) {k r : Nat} (hk : k < 1000) (hr : r < 1000) : fX4_inked (iI k) (iI r) M = some (b2 (P k r)) := by
  rw [c_inked hP k r (by omega) (by omega) (by omega) (by omega), pI_nat]
