/-! the class's nearest -/
theorem lL_and1 {n : Nat} (hn : n < 9223372036854775808) : lL (n : Int) &&& 1 = lL ((n % 2 : Nat) : Int) := by
  rw [lL_nat, lL_nat]
  apply Int64.toBitVec_inj.mp
  rw [Int64.toBitVec_and, show (Int64.ofNat n).toBitVec = BitVec.ofNat 64 n from rfl, show (Int64.ofNat (n % 2)).toBitVec = BitVec.ofNat 64 (n % 2) from rfl, show (1 : Int64).toBitVec = BitVec.ofNat 64 1 from rfl]
  apply BitVec.eq_of_toNat_eq
  rw [BitVec.toNat_and, BitVec.toNat_ofNat, BitVec.toNat_ofNat, BitVec.toNat_ofNat, Nat.mod_eq_of_lt (show n < 2 ^ 64 by omega), Nat.mod_eq_of_lt (show 1 < 2 ^ 64 by decide), Nat.and_one_is_mod, Nat.mod_eq_of_lt (show n % 2 < 2 ^ 64 by omega)]
theorem c_up {a b : Nat} (hb : 0 < b) (ha : a < 1048576) (hb2 : b < 1048576) : ∃ j : Nat, zlp (zu2 (fX1_nearest_L23 (lL (a : Int)))) zfu (iI 0, lL (b : Int)) = some (iI (j : Int), lL ((b * 2 ^ j : Nat) : Int)) ∧ j ≤ 20 ∧ a < b * 2 ^ j * 2 ∧ (j = 0 ∨ b * 2 ^ j ≤ a) := by
  obtain ⟨r, hr, j, rfl, h1, h2, h3⟩ : ∃ r, zlp (zu2 (fX1_nearest_L23 (lL (a : Int)))) zfu (iI 0, lL (b : Int)) = some r ∧ ∃ j : Nat, r = (iI (j : Int), lL ((b * 2 ^ j : Nat) : Int)) ∧ j ≤ 20 ∧ a < b * 2 ^ j * 2 ∧ (j = 0 ∨ b * 2 ^ j ≤ a) := by
    refine zlp_inv (I := fun j p => p.1 = iI (j : Int) ∧ p.2 = lL ((b * 2 ^ j : Nat) : Int) ∧ (j = 0 ∨ b * 2 ^ j ≤ a)) _ 20 (by omega) ⟨rfl, by dsimp only; rw [Nat.pow_zero, Nat.mul_one], Or.inl rfl⟩ ?_ ?_
    · rintro j ⟨x, y⟩ hj ⟨e1, e2, h3⟩
      dsimp only at e1 e2
      have hB : b * 2 ^ j < 1048576 := by
        rcases h3 with h3 | h3
        · rw [h3, Nat.pow_zero, Nat.mul_one]; exact hb2
        · omega
      have hs : b * 2 ^ (j + 1) = b * 2 ^ j * 2 := by rw [Nat.pow_succ, Nat.mul_assoc]
      obtain ⟨B, eB⟩ : ∃ B, B = b * 2 ^ j := ⟨_, rfl⟩
      rw [← eB] at e2 h3 hB hs
      by_cases g : a < B * 2
      · refine Or.inr ⟨(iI (j : Int), lL (B : Int)), ?_, j, by rw [eB], by omega, by rw [← eB]; exact g, by rw [← eB]; exact h3⟩
        show fX1_nearest_L23 (lL (a : Int)) x y = _
        unfold fX1_nearest_L23
        rw [e1, e2, show (2 : Int64) = lL 2 from rfl, lL_mul, if_pos (by rw [lg_cmp_lt, lL_lt (by omega) (by omega) (by omega) (by omega)]; omega)]
      · refine Or.inl ⟨(iI ((j + 1 : Nat) : Int), lL ((B * 2 : Nat) : Int)), ?_, rfl, by dsimp only; rw [hs], Or.inr (by rw [hs]; omega)⟩
        show fX1_nearest_L23 (lL (a : Int)) x y = _
        unfold fX1_nearest_L23
        rw [e1, e2, show (2 : Int64) = lL ((2 : Nat) : Int) from rfl, lL_mul, lL_mul, if_neg (by rw [lg_cmp_lt, lL_lt (by omega) (by omega) (by omega) (by omega)]; omega), li_32, fle_n (by omega) (by omega) (by omega), zn_eq, li_1, iI_add, ← Int.natCast_mul]
        rfl
    · rintro ⟨x, y⟩ ⟨e1, e2, h3⟩
      dsimp only at e1 e2
      have hk : 1048576 ≤ b * 2 ^ 20 := Nat.le_mul_of_pos_left _ hb
      obtain ⟨B, eB⟩ : ∃ B, B = b * 2 ^ 20 := ⟨_, rfl⟩
      rw [← eB] at e2 h3 hk
      omega
  exact ⟨j, hr, h1, h2, h3⟩
theorem c_down {a b j : Nat} (ha0 : 0 < a) (ha : a < 1048576) (hb : 0 < b) (hb2 : b < 1048576) (hj : j ≤ 20) (h2 : a < b * 2 ^ j * 2) (h3 : j = 0 ∨ b * 2 ^ j ≤ a) : ∃ i : Nat, zlp (zu2 (fX1_nearest_L56 (lL ((b * 2 ^ j : Nat) : Int)))) zfu (iI (j : Int), lL (a : Int)) = some (iI ((j : Int) - (i : Int)), lL ((a * 2 ^ i : Nat) : Int)) ∧ i ≤ 20 ∧ (i = 0 ∨ j = 0) ∧ b * 2 ^ j ≤ a * 2 ^ i ∧ a * 2 ^ i < b * 2 ^ j * 2 := by
  have hB : b * 2 ^ j < 1048576 := by
    rcases h3 with h3 | h3
    · rw [h3, Nat.pow_zero, Nat.mul_one]; exact hb2
    · omega
  obtain ⟨B, eB⟩ : ∃ B, B = b * 2 ^ j := ⟨_, rfl⟩
  rw [← eB] at h2 h3 hB ⊢
  obtain ⟨r, hr, i, rfl, k1, k2, k3, k4⟩ : ∃ r, zlp (zu2 (fX1_nearest_L56 (lL (B : Int)))) zfu (iI (j : Int), lL (a : Int)) = some r ∧ ∃ i : Nat, r = (iI ((j : Int) - (i : Int)), lL ((a * 2 ^ i : Nat) : Int)) ∧ i ≤ 20 ∧ (i = 0 ∨ j = 0) ∧ B ≤ a * 2 ^ i ∧ a * 2 ^ i < B * 2 := by
    refine zlp_inv (I := fun i p => p.1 = iI ((j : Int) - (i : Int)) ∧ p.2 = lL ((a * 2 ^ i : Nat) : Int) ∧ (i = 0 ∨ j = 0) ∧ a * 2 ^ i < B * 2) _ 20 (by omega) ⟨by dsimp only; rw [show (j : Int) - ((0 : Nat) : Int) = (j : Int) by omega], by dsimp only; rw [Nat.pow_zero, Nat.mul_one], Or.inl rfl, by rw [Nat.pow_zero, Nat.mul_one]; exact h2⟩ ?_ ?_
    · rintro i ⟨x, y⟩ hi ⟨e1, e2, c1, c2⟩
      dsimp only at e1 e2
      have hs : a * 2 ^ (i + 1) = a * 2 ^ i * 2 := by rw [Nat.pow_succ, Nat.mul_assoc]
      have hz : i = 0 → a * 2 ^ i = a := fun h => by rw [h, Nat.pow_zero, Nat.mul_one]
      obtain ⟨X, eX⟩ : ∃ X, X = a * 2 ^ i := ⟨_, rfl⟩
      rw [← eX] at e2 c2 hs hz
      by_cases g : B ≤ X
      · refine Or.inr ⟨(iI ((j : Int) - (i : Int)), lL (X : Int)), ?_, i, by rw [eX], by omega, c1, by rw [← eX]; exact g, by rw [← eX]; exact c2⟩
        show fX1_nearest_L56 (lL (B : Int)) x y = _
        unfold fX1_nearest_L56
        rw [e1, e2, if_pos (by rw [lg_cmp_ge, lL_le (by omega) (by omega) (by omega) (by omega)]; omega)]
      · have hj0 : j = 0 := by
          rcases c1 with c1 | c1
          · rcases h3 with h3 | h3
            · exact h3
            · have := hz c1; omega
          · exact c1
        refine Or.inl ⟨(iI ((j : Int) - ((i + 1 : Nat) : Int)), lL ((X * 2 : Nat) : Int)), ?_, rfl, by dsimp only; rw [hs], Or.inr hj0, by rw [hs]; omega⟩
        show fX1_nearest_L56 (lL (B : Int)) x y = _
        unfold fX1_nearest_L56
        rw [e1, e2, if_neg (by rw [lg_cmp_ge, lL_le (by omega) (by omega) (by omega) (by omega)]; omega), show (-32 : Int32) = iI (-32) from rfl, fle_n (by omega) (by omega) (by omega), zn_eq, show (2 : Int64) = lL ((2 : Nat) : Int) from rfl, lL_mul, ← Int.natCast_mul, show (-1 : Int32) = iI (-1) from rfl, iI_add, show (j : Int) - ((i + 1 : Nat) : Int) = (j : Int) - (i : Int) + -1 by omega]
    · rintro ⟨x, y⟩ ⟨e1, e2, c1, c2⟩
      dsimp only at e1 e2
      have hk : 1048576 ≤ a * 2 ^ 20 := Nat.le_mul_of_pos_left _ ha0
      obtain ⟨X, eX⟩ : ∃ X, X = a * 2 ^ 20 := ⟨_, rfl⟩
      rw [← eX] at e2 c2 hk
      refine ⟨(iI ((j : Int) - ((20 : Nat) : Int)), lL (X : Int)), ?_, 20, by rw [eX], by omega, c1, by rw [← eX]; omega, by rw [← eX]; exact c2⟩
      show fX1_nearest_L56 (lL (B : Int)) x y = _
      unfold fX1_nearest_L56
      rw [e1, e2, if_pos (by rw [lg_cmp_ge, lL_le (by omega) (by omega) (by omega) (by omega)]; omega)]
  exact ⟨i, hr, k1, k2, k3, k4⟩
theorem c_nearest {a b N bias m : Nat} (ha0 : 0 < a) (ha : a < 1048576) (hb : 0 < b) (hb2 : b < 1048576) (hN1 : 20 ≤ N) (hN : N ≤ 52) (hbi1 : 100 ≤ bias) (hbi : bias ≤ 2000) (hm : mOK a b N m) (hbd : (a + 2 * b) * 2 ^ N ≤ 4611686018427387904) : fX1_nearest (lL (a : Int)) (lL (b : Int)) (iI (N : Nat)) (iI bias) = some (nbt a b N bias m) := by
  obtain ⟨j, e1, j1, j2, j3⟩ := c_up hb ha hb2
  obtain ⟨i, e2, i1, i2, i3, i4⟩ := c_down ha0 ha hb hb2 j1 j2 j3
  have hmj : mOK a b N (N + i - j) := by
    have p1 : 2 ^ (N + i - j) * 2 ^ j = 2 ^ N * 2 ^ i := by rw [← Nat.pow_add, ← Nat.pow_add]; congr 1; omega
    have hj0 : 0 < 2 ^ j := Nat.pow_pos (by decide)
    constructor
    · apply Nat.le_of_mul_le_mul_right _ hj0
      rw [Nat.mul_assoc a, p1, Nat.mul_assoc b, Nat.mul_comm (2 ^ N) (2 ^ j), Nat.mul_comm (2 ^ N) (2 ^ i), ← Nat.mul_assoc, ← Nat.mul_assoc]
      exact Nat.mul_le_mul_right _ i3
    · apply Nat.lt_of_mul_lt_mul_right (a := 2 ^ j)
      rw [Nat.mul_assoc a, p1, Nat.pow_succ, Nat.mul_assoc b, Nat.mul_comm (2 ^ N) (2 ^ i), ← Nat.mul_assoc a, show 2 ^ N * 2 * 2 ^ j = 2 ^ j * 2 * 2 ^ N by rw [Nat.mul_comm (2 ^ N * 2), Nat.mul_comm (2 ^ N) 2, Nat.mul_assoc], ← Nat.mul_assoc b, ← Nat.mul_assoc b]
      exact Nat.mul_lt_mul_of_pos_right i4 (Nat.pow_pos (by decide))
  have em : m = N + i - j := mOK_one hm hmj
  have hX : a * 2 ^ i * 2 ^ N = a * 2 ^ m * 2 ^ j := by rw [Nat.mul_assoc, Nat.mul_assoc, ← Nat.pow_add, ← Nat.pow_add]; congr 2; omega
  have hdv : a * 2 ^ i * 2 ^ N / (b * 2 ^ j) = a * 2 ^ m / b := by rw [hX, Nat.mul_div_mul_right _ _ (Nat.pow_pos (by decide))]
  have hmd : a * 2 ^ i * 2 ^ N % (b * 2 ^ j) = a * 2 ^ m % b * 2 ^ j := by rw [hX, Nat.mul_mod_mul_right]
  obtain ⟨q1, q2⟩ := rdg_bd hb hm
  have hpw : 2 ^ (N + 1) = 2 ^ N * 2 := Nat.pow_succ 2 N
  have hY : a * 2 ^ i * 2 ^ N ≤ 4611686018427387904 := by
    have h1 : a * 2 ^ i ≤ a + 2 * b := by
      rcases i2 with h | h
      · rw [h, Nat.pow_zero, Nat.mul_one]; omega
      · rw [h, Nat.pow_zero, Nat.mul_one] at i4; omega
    exact Nat.le_trans (Nat.mul_le_mul_right _ h1) hbd
  have hBs : b * 2 ^ j < 1048576 := by
    rcases j3 with h | h
    · rw [h, Nat.pow_zero, Nat.mul_one]; exact hb2
    · omega
  have hj0 : 0 < 2 ^ j := Nat.pow_pos (by decide)
  have hBp : 0 < b * 2 ^ j := Nat.mul_pos hb hj0
  have hTb : 2 ^ N ≤ 4611686018427387904 := Nat.le_trans (Nat.le_mul_of_pos_left _ (show 0 < a + 2 * b by omega)) hbd
  have hcmp1 : b * 2 ^ j < 2 * (a * 2 ^ m % b * 2 ^ j) ↔ b < 2 * (a * 2 ^ m % b) := by rw [← Nat.mul_assoc, Nat.mul_lt_mul_right hj0]
  have hcmp2 : 2 * (a * 2 ^ m % b * 2 ^ j) = b * 2 ^ j ↔ 2 * (a * 2 ^ m % b) = b := by rw [← Nat.mul_assoc]; exact ⟨fun h => Nat.eq_of_mul_eq_mul_right hj0 h, fun h => by rw [h]⟩
  have hmlt : a * 2 ^ m % b * 2 ^ j < b * 2 ^ j := by rw [Nat.mul_lt_mul_right hj0]; exact Nat.mod_lt _ hb
  have hsh := l_shl (a * 2 ^ i) (show N < 64 by omega)
  have hrd : rdg a b m = a * 2 ^ m / b + (if b < 2 * (a * 2 ^ m % b) ∨ (2 * (a * 2 ^ m % b) = b ∧ a * 2 ^ m / b % 2 = 1) then 1 else 0) := rfl
  obtain ⟨Y, eY⟩ : ∃ Y, Y = a * 2 ^ i * 2 ^ N := ⟨_, rfl⟩
  obtain ⟨B, eB⟩ : ∃ B, B = b * 2 ^ j := ⟨_, rfl⟩
  obtain ⟨q, eq⟩ : ∃ q, q = a * 2 ^ m / b := ⟨_, rfl⟩
  obtain ⟨s, es⟩ : ∃ s, s = a * 2 ^ m % b := ⟨_, rfl⟩
  obtain ⟨S, eS⟩ : ∃ S, S = s * 2 ^ j := ⟨_, rfl⟩
  obtain ⟨D, eD⟩ : ∃ D, D = rdg a b m := ⟨_, rfl⟩
  rw [← eY] at hdv hmd hY hsh
  rw [← eB] at hdv hmd hBs hBp hcmp1 hcmp2 hmlt e1 e2
  rw [← es] at hmd hcmp1 hcmp2 hmlt hrd
  rw [← eS] at hmd hcmp1 hcmp2 hmlt
  rw [← eq] at hdv q1 q2 hrd
  rw [← eD] at hrd
  have hLd := lL_div (a := Y) (b := B) (by omega) hBp (by omega)
  have hLm := lL_mod (a := Y) (b := B) (by omega) hBp (by omega)
  rw [hdv] at hLd
  rw [hmd] at hLm
  have hz : ∀ {α : Type} (K : Option α), zc (decide (¬ lL (B : Int) = 0)) K = K := fun K => zc_t (by
    rw [decide_eq_true_iff, show (0 : Int64) = lL 0 from rfl, lL_eq (by omega) (by omega) (by omega) (by omega)]; omega)
  have hrl : (if 0 < lg_cmp (lL ((2 * S : Nat) : Int)) (lL (B : Int)) then lL (q : Int) + 1 else (if lg_cmp (lL ((2 * S : Nat) : Int)) (lL (B : Int)) = 0 then (if lg_cmp (lL (q : Int) &&& 1) 1 = 0 then lL (q : Int) + 1 else lL (q : Int)) else lL (q : Int))) = lL (D : Int) := by
    rw [lL_and1 (by omega), hrd]
    by_cases g1 : B < 2 * S
    · rw [if_pos (by rw [lg_cmp_gt, lL_lt (by omega) (by omega) (by omega) (by omega)]; omega), if_pos (Or.inl (hcmp1.mp g1)), show (1 : Int64) = lL ((1 : Nat) : Int) from rfl, lL_add, ← Int.natCast_add]
    · rw [if_neg (by rw [lg_cmp_gt, lL_lt (by omega) (by omega) (by omega) (by omega)]; omega)]
      have g1' : ¬ b < 2 * s := fun h => g1 (hcmp1.mpr h)
      by_cases g2 : 2 * S = B
      · rw [if_pos (by rw [lg_cmp_eq, g2])]
        by_cases g3 : q % 2 = 1
        · rw [if_pos (by rw [lg_cmp_eq, g3]; rfl), if_pos (Or.inr ⟨hcmp2.mp g2, g3⟩), show (1 : Int64) = lL ((1 : Nat) : Int) from rfl, lL_add, ← Int.natCast_add]
        · rw [if_neg (by rw [lg_cmp_eq, show (1 : Int64) = lL 1 from rfl, lL_eq (by omega) (by omega) (by omega) (by omega)]; omega), if_neg (by rintro (h | h); exact g1' h; exact g3 h.2)]; rfl
      · rw [if_neg (by rw [lg_cmp_eq, lL_eq (by omega) (by omega) (by omega) (by omega)]; omega), if_neg (by rintro (h | h); exact g1' h; exact g2 (hcmp2.mpr h.1))]; rfl
  have hpk : fX1_packed (iI ((j : Int) - (i : Int))) (lL (D : Int)) (iI (N : Nat)) (iI bias) = some (nbt a b N bias m) := by
    unfold fX1_packed nbt
    rw [iI_add, iI_long (z := (j : Int) - (i : Int) + (bias : Int)) (by omega) (by omega), show (j : Int) - (i : Int) + (bias : Int) = ((j + bias - i : Nat) : Int) by omega, l_shl _ (by omega), show (1 : Int64) = lL ((1 : Nat) : Int) from rfl, l_shl 1 (by omega), lL_add, lL_sub, Nat.one_mul, ← eD, show (N : Int) - (m : Int) + (bias : Int) = ((j + bias - i : Nat) : Int) by omega, Int.natCast_mul]
  unfold fX1_nearest
  rw [if_neg (by rw [lg_cmp_le, show (0 : Int64) = lL 0 from rfl, lL_le (by omega) (by omega) (by omega) (by omega)]; omega), if_pos (by rw [lg_cmp_gt, show (0 : Int64) = lL 0 from rfl, lL_lt (by omega) (by omega) (by omega) (by omega)]; omega), show ((0 : Int32), lL (b : Int)) = (iI 0, lL (b : Int)) from rfl, e1, zb1_eq]
  show zb1 (zlp (zu2 (fX1_nearest_L56 (lL (B : Int)))) zfu (iI (j : Int), lL (a : Int))) _ = _
  rw [e2, zb1_eq]
  show zc _ _ = _
  dsimp only
  rw [hz, zn_eq, hz, zn_eq, hsh, hLm, hLd, show (2 : Int64) = lL ((2 : Nat) : Int) from rfl, lL_mul, ← Int.natCast_mul, hrl, hpk, zb1_eq]
