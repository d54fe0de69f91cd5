/-! the reference's small functions -/
theorem r_within (v a b : Int) (h1 : -2147483648 ≤ v) (h2 : v ≤ 2147483647) (h3 : -2147483648 ≤ a) (h4 : a ≤ 2147483647) (h5 : -2147483648 ≤ b) (h6 : b ≤ 2147483647) : fX7_within (iI v) (iI a) (iI b) = some (b2 (decide (a ≤ v) && decide (v ≤ b))) := by
  unfold fX7_within
  simp (disch := omega) only [zn_eq, zj_eq, zb1_eq, zb2_eq, zb3_eq, zbr_l, zbr_r, zc_in, iI_add, iI_sub, iI_mul, iI_neg, iI_lt, iI_le, iI_eq, zwr_s, zwr_o, zwr_O, zwr_k, zwa_s, zwa_S, zwa_o, zwa_O, upd_s, upd_o, li_0, li_1, li_2, li_3, li_4, li_5, li_6, li_7, li_8, li_9, li_10, li_11, li_12, li_15, li_16, li_18, li_22, li_23, li_24, li_28, li_31, li_32, li_33, li_40, li_52, li_53, li_63, li_64, li_85, li_86, li_96, li_99, li_100, li_127, li_128, li_200, li_201, li_384, li_768, li_1023, li_5376, li_6144]
  by_cases x : v < a
  · rw [if_pos x, decide_eq_false (by omega)]; rfl
  · by_cases y : b < v
    · rw [if_neg x, if_pos y, decide_eq_false (p := v ≤ b) (by omega), Bool.and_false]; rfl
    · rw [if_neg x, if_neg y, decide_eq_true (by omega), decide_eq_true (by omega)]; rfl
theorem zc_01 (b : Bool) (k : Option Int32) : zc (z01 (b2 b)) k = k := zc_t (b2_01 b)
theorem r_isColumn {M : zMem} {w : Nat} {P : Nat → Nat → Bool} (hP : rPg M w P) (z : Int) (h1 : -2147483648 ≤ z) (h2 : z ≤ 2147483647) : fX7_isColumn (iI z) M = some (b2 (decide (0 ≤ z) && decide (z < w))) := by
  obtain ⟨w1, w2, w3, -, -⟩ := hP
  unfold fX7_isColumn
  rw [w3, li_0, li_1, iI_sub, r_within z 0 _ h1 h2 (by omega) (by omega) (by omega) (by omega), zb1_eq, zc_01]
  congr 2
  congr 1
  apply decide_eq_decide.mpr
  omega
theorem r_isRow (z : Int) (h1 : -2147483648 ≤ z) (h2 : z ≤ 2147483647) : fX7_isRow (iI z) = some (b2 (decide (0 ≤ z) && decide (z < 32))) := by
  unfold fX7_isRow
  rw [li_0, li_31, r_within z 0 _ h1 h2 (by omega) (by omega) (by omega) (by omega), zb1_eq, zc_01]
  congr 2
  congr 1
  apply decide_eq_decide.mpr
  omega
theorem pI_out {M : zMem} {w : Nat} {P : Nat → Nat → Bool} (hP : rPg M w P) {k r : Int} (h : ¬ (0 ≤ k ∧ k < w ∧ 0 ≤ r ∧ r < 32)) : pI P k r = false := by
  unfold pI
  cases hp : P k.toNat r.toNat with
  | false => simp
  | true =>
    have := hP.2.2.2.2 _ _ hp
    by_cases a : 0 ≤ k
    · by_cases b : 0 ≤ r
      · omega
      · rw [decide_eq_false b]; simp
    · rw [decide_eq_false a]; rfl
theorem r_isDot {M : zMem} {w : Nat} {P : Nat → Nat → Bool} (hP : rPg M w P) (k r : Int) (k1 : -2147483648 ≤ k) (k2 : k ≤ 2147483647) (r1 : -2147483648 ≤ r) (r2 : r ≤ 2147483647) : fX7_isDot (iI k) (iI r) M = some (b2 (pI P k r)) := by
  have hw := hP.2.1
  unfold fX7_isDot
  rw [r_isColumn hP k k1 k2, zb1_eq, zj_eq]
  by_cases hk : 0 ≤ k ∧ k < w
  · rw [decide_eq_true hk.1, decide_eq_true hk.2, if_neg (by decide), r_isRow r r1 r2, zb1_eq]
    by_cases hr : 0 ≤ r ∧ r < 32
    · rw [decide_eq_true hr.1, decide_eq_true hr.2, if_neg (by decide), li_32, iI_mul, iI_add, zc_in (by omega) (by omega) (by omega), iI_nat (by omega) (by omega)]
      have e : (32 * k + r).toNat = 32 * k.toNat + r.toNat := by omega
      rw [e, hP.2.2.2.1 k.toNat (by omega) r.toNat (by omega)]
      unfold pI
      rw [decide_eq_true hk.1, decide_eq_true hr.1]
      cases P k.toNat r.toNat <;> rfl
    · rw [pI_out hP (by omega), if_pos]
      · rfl
      · rcases (show r < 0 ∨ (32 : Int) ≤ r by omega) with a | a
        · rw [decide_eq_false (by omega)]; rfl
        · rw [decide_eq_false (p := r < 32) (by omega)]; simp [b2]
  · rw [pI_out hP (by omega), if_pos]
    · rfl
    · rcases (show k < 0 ∨ (w : Int) ≤ k by omega) with a | a
      · rw [decide_eq_false (by omega)]; rfl
      · rw [decide_eq_false (p := k < w) (by omega)]; simp [b2]
theorem r_isDotN {M : zMem} {w : Nat} {P : Nat → Nat → Bool} (hP : rPg M w P) {k r : Nat} (hk : k < 1000) (hr : r < 1000) : fX7_isDot (iI k) (iI r) M = some (b2 (P k r)) := by
  rw [r_isDot hP k r (by omega) (by omega) (by omega) (by omega), pI_nat]
/-! loops that add up -/
theorem lp_sum {body : Int32 × Int32 → Option ((Int32 × Int32) ⊕ (Int32 × Int32))} (n : Nat) (g : Nat → Int) (hn : n ≤ 10000) (x0 : Int)
    (hs : ∀ i, i < n → ∀ x : Int, body (iI i, iI x) = some (.inl (iI ((i + 1 : Nat) : Int), iI (x + g i)))) (hx : ∀ x : Int, body (iI n, iI x) = some (.inr (iI n, iI x))) : zlp body zfu (iI 0, iI x0) = some (iI n, iI (x0 + fb_si g n)) :=
  zlp_seq (S := fun i => (iI i, iI (x0 + fb_si g i))) _ n (by omega) (by show _ = (iI 0, iI (x0 + 0)); rw [Int.add_zero]) (fun i hi => by
    rw [hs i hi, fb_si_succ, Int.add_assoc]) (hx _)
def bN (b : Bool) : Nat := if b then 1 else 0
def inkN (P : Nat → Nat → Bool) (n : Nat) : Nat := fb_sm (fun k => fb_ct (P k) 32) n
theorem si_nat (f : Nat → Nat) (n : Nat) : fb_si (fun k => (f k : Int)) n = (fb_sm f n : Int) := fb_si_nat f n
theorem c_ct {M : zMem} {w : Nat} {P : Nat → Nat → Bool} (hP : cPg M w P) {k : Nat} (hk : k < 24) : fb_ct (bt (M 2 k)) 32 = fb_ct (P k) 32 := fb_ct_cong (fun r hr => hP.2.2.2.1 k hk r hr)
theorem c_ink {M : zMem} {w : Nat} {P : Nat → Nat → Bool} (hP : cPg M w P) : fX4_ink M = some (iI (inkN P w)) := by
  have hw := hP.2.1
  unfold fX4_ink
  rw [li_0, lp_sum w (fun k => (fb_ct (P k) 32 : Int)) (by omega) 0]
  · rw [zb1_eq]
    show some (iI (0 + fb_si (fun k => (fb_ct (P k) 32 : Int)) w)) = _
    rw [Int.zero_add, si_nat (fun k => fb_ct (P k) 32)]; rfl
  · intro i hi x
    show fX4_ink_L4 M (iI i) (iI x) = _
    unfold fX4_ink_L4
    rw [hP.2.2.1, fle_n (by omega) (by omega) (by omega), zc_in (by omega) (by omega) (by omega), iI_natN (by omega), f_bitCount, zb1_eq, c_ct hP (by omega), nI_iI, zn_eq, iI_add, li_1, iI_add]; rfl
  · intro x
    show fX4_ink_L4 M (iI w) (iI x) = _
    unfold fX4_ink_L4
    rw [hP.2.2.1, if_pos (Int32.le_refl _)]
theorem ct_grid (P : Nat → Nat → Bool) : ∀ n, fb_ct (fun x => P (x / 32) (x % 32)) (32 * n) = inkN P n
  | 0 => rfl
  | n + 1 => by
    rw [show 32 * (n + 1) = 32 * n + 32 by omega, fb_ct_split, ct_grid P n]
    unfold inkN
    rw [fb_sm_succ]
    congr 1
    apply fb_ct_cong
    intro r hr
    rw [show (32 * n + r) / 32 = n by omega, show (32 * n + r) % 32 = r by omega]
theorem ink_w {P : Nat → Nat → Bool} {w : Nat} (hw : ∀ k r, P k r = true → k < w ∧ r < 32) : ∀ d, inkN P (w + d) = inkN P w
  | 0 => rfl
  | d + 1 => by
    rw [show w + (d + 1) = (w + d) + 1 by omega]
    show inkN P (w + d) + fb_ct (P (w + d)) 32 = _
    rw [ink_w hw d, fb_ct_zero.mpr (fun r hr => by
      cases h : P (w + d) r with
      | false => rfl
      | true => have := (hw _ _ h).1; omega)]
    rfl
theorem ct_si (p : Nat → Bool) : ∀ n, fb_si (fun x => if p x then (1 : Int) else 0) n = (fb_ct p n : Int)
  | 0 => rfl
  | n + 1 => by
    rw [fb_si_succ, ct_si p n, fb_ct_succ]
    cases p n <;> simp
theorem ite_01 (b : Bool) : (if b2 b = 0 then (0 : Int32) else 1) = iI (if b then (1 : Int) else 0) := by cases b <;> rfl
theorem r_at {M : zMem} {w : Nat} {P : Nat → Nat → Bool} (hP : rPg M w P) {x : Nat} (hx : x < 768) : M 61 x = b2 (P (x / 32) (x % 32)) := by
  have := hP.2.2.2.1 (x / 32) (by omega) (x % 32) (by omega)
  rwa [show 32 * (x / 32) + x % 32 = x by omega] at this
theorem r_ink {M : zMem} {w : Nat} {P : Nat → Nat → Bool} (hP : rPg M w P) : fX7_inkOf M = some (iI (inkN P w)) := by
  have hw := hP.2.1
  unfold fX7_inkOf
  rw [li_0, lp_sum 768 (fun x => if P (x / 32) (x % 32) then (1 : Int) else 0) (by omega) 0]
  · rw [zb1_eq]
    show some (iI (0 + fb_si (fun x => if P (x / 32) (x % 32) then (1 : Int) else 0) 768)) = _
    rw [Int.zero_add, ct_si (fun x => P (x / 32) (x % 32)), show 768 = 32 * 24 from rfl, ct_grid, show (24 : Nat) = w + (24 - w) by omega, ink_w hP.2.2.2.2]
  · intro i hi x
    show fX7_inkOf_L4 M (iI i) (iI x) = _
    unfold fX7_inkOf_L4
    rw [li_768, fle_n (by omega) (by omega) (by omega), zc_in (by omega) (by omega) (by omega), iI_natN (by omega), r_at hP hi, zn_eq, ite_01, iI_add, li_1, iI_add]; rfl
  · intro x
    show fX7_inkOf_L4 M (iI (768 : Nat)) (iI x) = _
    unfold fX7_inkOf_L4
    rw [li_768, fle_p (by omega) (by omega) (by omega)]
