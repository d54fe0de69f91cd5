theorem rdg_bd {a b N m : Nat} (hb : 0 < b) (h : mOK a b N m) : 2 ^ N ≤ a * 2 ^ m / b ∧ a * 2 ^ m / b < 2 ^ (N + 1) := by
  constructor
  · rw [Nat.le_div_iff_mul_le hb, Nat.mul_comm]; exact h.1
  · rw [Nat.div_lt_iff_lt_mul hb, Nat.mul_comm (2 ^ (N + 1)) b]; exact h.2
theorem r_nearest {M : zMem} {F : Int64} {a b N : Nat} (ha : 0 < a) (ha2 : a ≤ 2147483647) (hb : 0 < b) (hb2 : b < 1048576) (hN : N ≤ 52) (h0 : a < b * 2 ^ (N + 1)) (hbd : b * 2 ^ (N + 1) ≤ 4611686018427387904) : ∃ M2 F2 m, fX7_nearest (iI a) (iI b) (iI ((N + 1 : Nat) : Int)) M F = some (M2, F2) ∧ mOK a b N m ∧ m ≤ N + 20 ∧ (∀ c j, (c ≠ 60 ∨ j ≠ 25) → M2 c j = M c j) ∧ rdg a b m ≤ 2 ^ (N + 1) ∧ 2 ^ N ≤ rdg a b m ∧ ((rdg a b m < 2 ^ (N + 1) ∧ M2 60 25 = iI (-(m : Int)) ∧ F2 = lL (rdg a b m : Int)) ∨ (rdg a b m = 2 ^ (N + 1) ∧ M2 60 25 = iI (-(m : Int) + 1) ∧ F2 = lL ((2 ^ N : Nat) : Int))) := by
  have hz : ∀ {α : Type} (K : Option α), zc (decide (¬ lL (b : Int) = 0)) K = K := fun K => zc_t (by
    rw [decide_eq_true_iff, show (0 : Int64) = lL 0 from rfl, lL_eq (by omega) (by omega) (by omega) (by omega)]; omega)
  obtain ⟨m, M1, e1, hm, hm2, c1, o1⟩ := r_nearL (M0 := zwr M 60 25 (iI 0)) ha hb hb2 hN h0 hbd zwr_s
  have o1' : ∀ c j, (c ≠ 60 ∨ j ≠ 25) → M1 c j = M c j := by
    intro c j h
    rw [o1 c j h]
    rcases Classical.em (c = 60) with e | e
    · subst e; rw [zwr_k (by omega)]
    · rw [zwr_o e]
  obtain ⟨q1, q2⟩ := rdg_bd hb hm
  have hx := hm.2
  have hpw : 2 ^ (N + 1) = 2 ^ N * 2 := Nat.pow_succ 2 N
  have hmod := Nat.mod_lt (a * 2 ^ m) hb
  have hle := Nat.div_le_self (a * 2 ^ m) b
  have hsh : (1 : Int64) <<< ((iI ((N + 1 : Nat) : Int) - 1).toInt64 &&& 63) = lL ((2 ^ N : Nat) : Int) := by
    rw [li_1, iI_sub, show ((N + 1 : Nat) : Int) - 1 = (N : Int) by omega, show (1 : Int64) = lL ((1 : Nat) : Int) from rfl, l_shl 1 (by omega), Nat.one_mul]
  obtain ⟨X, eX⟩ : ∃ X, X = a * 2 ^ m := ⟨_, rfl⟩
  obtain ⟨q, eq⟩ : ∃ q, q = X / b := ⟨_, rfl⟩
  obtain ⟨s, es⟩ : ∃ s, s = X % b := ⟨_, rfl⟩
  obtain ⟨T, eT⟩ : ∃ T, T = 2 ^ N := ⟨_, rfl⟩
  rw [← eX] at e1 hx hmod hle q1 q2
  rw [← eq] at hle q1 q2
  rw [← es] at hmod
  rw [← eT] at e1 hsh hpw q1
  have hmd := lL_mod (a := X) (b := b) (by omega) hb (by omega)
  have hdv := lL_div (a := X) (b := b) (by omega) hb (by omega)
  have hm2' := lL_mod (a := q) (b := 2) (by omega) (by omega) (by omega)
  rw [← es] at hmd
  rw [← eq] at hdv
  have hrd : rdg a b m = q + (if b < 2 * s ∨ (2 * s = b ∧ q % 2 = 1) then 1 else 0) := by unfold rdg; rw [← eX, ← eq, ← es]
  have hrl : (if 0 < lg_cmp (lL ((2 * s : Nat) : Int)) (lL (b : Int)) then (1 : Int64) else (if lg_cmp (lL ((2 * s : Nat) : Int)) (lL (b : Int)) = 0 then (if lg_cmp (lL ((q % 2 : Nat) : Int)) 1 = 0 then (1 : Int64) else 0) else 0)) = lL ((if b < 2 * s ∨ (2 * s = b ∧ q % 2 = 1) then 1 else 0 : Nat) : Int) := by
    by_cases g1 : b < 2 * s
    · rw [if_pos (by rw [lg_cmp_gt, lL_lt (by omega) (by omega) (by omega) (by omega)]; omega), if_pos (Or.inl g1)]; rfl
    · rw [if_neg (by rw [lg_cmp_gt, lL_lt (by omega) (by omega) (by omega) (by omega)]; omega)]
      by_cases g2 : 2 * s = b
      · rw [if_pos (by rw [lg_cmp_eq, g2])]
        by_cases g3 : q % 2 = 1
        · rw [if_pos (by rw [lg_cmp_eq, g3]; rfl), if_pos (Or.inr ⟨g2, g3⟩)]; rfl
        · rw [if_neg (by rw [lg_cmp_eq, show (1 : Int64) = lL 1 from rfl, lL_eq (by omega) (by omega) (by omega) (by omega)]; omega), if_neg (by omega)]; rfl
      · rw [if_neg (by rw [lg_cmp_eq, lL_eq (by omega) (by omega) (by omega) (by omega)]; omega), if_neg (by omega)]; rfl
  obtain ⟨D, eD⟩ : ∃ D, D = rdg a b m := ⟨_, rfl⟩
  have hDb : D ≤ 2 ^ (N + 1) ∧ T ≤ D := by
    rw [eD, hrd]
    by_cases g : b < 2 * s ∨ (2 * s = b ∧ q % 2 = 1)
    · rw [if_pos g]; omega
    · rw [if_neg g]; omega
  have hb63 : 2 ^ (N + 1) ≤ 4611686018427387904 := by
    have := Nat.le_mul_of_pos_left (2 ^ (N + 1)) hb
    omega
  have hrun : fX7_nearest (iI a) (iI b) (iI ((N + 1 : Nat) : Int)) M F = if D = T * 2 then some (zwr M1 60 25 (M1 60 25 + 1), lL (T : Int)) else some (M1, lL (D : Int)) := by
    unfold fX7_nearest
    rw [zn_eq, zn_eq, zn_eq, hsh, iI_long (by omega) (by omega), show zwr M 60 25 (0 : Int32) = zwr M 60 25 (iI 0) from rfl, e1, zb1_eq]
    show zc _ _ = _
    dsimp only
    rw [iI_long (by omega) (by omega), hz, zn_eq, hz, zn_eq, zn_eq, hmd, hdv, show (2 : Int64) = lL ((2 : Nat) : Int) from rfl, hm2', lL_mul, lL_mul, ← Int.natCast_mul, ← Int.natCast_mul, hrl, lL_add, ← Int.natCast_add, ← hrd, ← eD, zj_eq]
    by_cases g : D = T * 2
    · rw [if_pos g, if_pos (by rw [lg_cmp_eq, g, Nat.mul_comm]), zn_eq, zn_eq]
    · rw [if_neg g, if_neg (by rw [lg_cmp_eq, lL_eq (by omega) (by omega) (by omega) (by omega)]; omega)]
  by_cases g : D = T * 2
  · rw [if_pos g] at hrun
    refine ⟨_, _, m, hrun, hm, hm2, ?_, by rw [← eD]; exact hDb.1, by rw [← eD, ← eT]; exact hDb.2, Or.inr ⟨by rw [← eD]; omega, ?_, by rw [← eT]⟩⟩
    · intro c j h
      rcases Classical.em (c = 60) with e | e
      · subst e; rw [zwr_k (by omega)]; exact o1' _ _ h
      · rw [zwr_o e]; exact o1' _ _ h
    · rw [zwr_s, c1, li_1, iI_add]
  · rw [if_neg g] at hrun
    exact ⟨_, _, m, hrun, hm, hm2, o1', by rw [← eD]; exact hDb.1, by rw [← eD, ← eT]; exact hDb.2, Or.inl ⟨by rw [← eD]; omega, c1, by rw [← eD]⟩⟩
/-- the bits that both give -/
def nbt (a b N bias m : Nat) : Int64 := lL (((N : Int) - (m : Int) + (bias : Int)) * ((2 ^ N : Nat) : Int) + (rdg a b m : Int) - ((2 ^ N : Nat) : Int))
theorem r_bits {M2 : zMem} {F2 : Int64} {a b N m bias : Nat} (hN : N ≤ 52) (hm : m ≤ N + 20) (hbi : bias ≤ 2000) (h : (rdg a b m < 2 ^ (N + 1) ∧ M2 60 25 = iI (-(m : Int)) ∧ F2 = lL (rdg a b m : Int)) ∨ (rdg a b m = 2 ^ (N + 1) ∧ M2 60 25 = iI (-(m : Int) + 1) ∧ F2 = lL ((2 ^ N : Nat) : Int))) : fX7_bits (iI ((N + 1 : Nat) : Int)) (iI bias) M2 F2 = some (nbt a b N bias m) := by
  have hpw : 2 ^ (N + 1) = 2 ^ N * 2 := Nat.pow_succ 2 N
  have hsh : (1 : Int64) <<< ((iI ((N + 1 : Nat) : Int) - 1).toInt64 &&& 63) = lL ((2 ^ N : Nat) : Int) := by
    rw [li_1, iI_sub, show ((N + 1 : Nat) : Int) - 1 = (N : Int) by omega, show (1 : Int64) = lL ((1 : Nat) : Int) from rfl, l_shl 1 (by omega), Nat.one_mul]
  unfold fX7_bits nbt
  rw [zn_eq, hsh]
  obtain ⟨T, eT⟩ : ∃ T, T = 2 ^ N := ⟨_, rfl⟩
  rw [← eT] at hpw h ⊢
  rcases h with ⟨h1, h2, h3⟩ | ⟨h1, h2, h3⟩
  · rw [h2, h3, iI_add, iI_long (by omega) (by omega), iI_long (by omega) (by omega), show (1 : Int64) = lL 1 from rfl, lL_sub, lL_add, lL_mul, lL_add, lL_sub, show -(m : Int) + ((N + 1 : Nat) : Int) - 1 + (bias : Int) = (N : Int) - (m : Int) + (bias : Int) by omega]
  · rw [h2, h3, iI_add, iI_long (by omega) (by omega), iI_long (by omega) (by omega), show (1 : Int64) = lL 1 from rfl, lL_sub, lL_add, lL_mul, lL_add, lL_sub, show -(m : Int) + 1 + ((N + 1 : Nat) : Int) - 1 + (bias : Int) = ((N : Int) - (m : Int) + (bias : Int)) + 1 by omega, Int.add_mul, h1, hpw]
    congr 2
    omega
