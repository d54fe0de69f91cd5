/-! the reference's nearest -/
theorem r_nearL {M0 : zMem} {a b N : Nat} (ha : 0 < a) (hb : 0 < b) (hb2 : b < 1048576) (hN : N ≤ 52) (h0 : a < b * 2 ^ (N + 1)) (hbd : b * 2 ^ (N + 1) ≤ 4611686018427387904) (hM0 : M0 60 25 = iI 0) : ∃ m M1, zlp (zu2 (fX7_nearest_L16 (iI b) (lL ((2 ^ N : Nat) : Int)))) zfu (lL (a : Int), M0) = some (lL ((a * 2 ^ m : Nat) : Int), M1) ∧ mOK a b N m ∧ m ≤ N + 20 ∧ M1 60 25 = iI (-(m : Int)) ∧ ∀ c j, (c ≠ 60 ∨ j ≠ 25) → M1 c j = M0 c j := by
  have hz : ∀ {α : Type} (K : Option α), zc (decide (¬ ((iI (b : Int)).toInt64) = 0)) K = K := fun K => zc_t (by
    rw [decide_eq_true_iff, iI_long (by omega) (by omega), show (0 : Int64) = lL 0 from rfl, lL_eq (by omega) (by omega) (by omega) (by omega)]; omega)
  have hpw : 2 ^ (N + 1) = 2 ^ N * 2 := Nat.pow_succ 2 N
  have hbp : b * 2 ^ (N + 1) = b * 2 ^ N * 2 := by rw [hpw, Nat.mul_assoc]
  have h2N : 2 ^ N ≤ b * 2 ^ N := Nat.le_mul_of_pos_left _ hb
  obtain ⟨T, eT⟩ : ∃ T, T = 2 ^ N := ⟨_, rfl⟩
  obtain ⟨B, eB⟩ : ∃ B, B = b * 2 ^ N := ⟨_, rfl⟩
  have test : ∀ (x : Nat) (M : zMem), x < B * 2 → fX7_nearest_L16 (iI b) (lL (T : Int)) (lL (x : Int)) M = if B ≤ x then some (.inr (lL (x : Int), M)) else some (.inl (lL ((x * 2 : Nat) : Int), zwr M 60 25 (M 60 25 - 1))) := by
    intro x M hx
    have hd := Nat.div_le_self x b
    have hiff : T ≤ x / b ↔ B ≤ x := by rw [Nat.le_div_iff_mul_le hb, eB, eT, Nat.mul_comm]
    unfold fX7_nearest_L16
    rw [hz, iI_long (by omega) (by omega), lL_div (by omega) hb (by omega)]
    obtain ⟨q, eq⟩ : ∃ q, q = x / b := ⟨_, rfl⟩
    rw [← eq] at hd hiff ⊢
    by_cases g : B ≤ x
    · rw [if_pos g, if_pos]
      rw [lg_cmp_ge, lL_le (by omega) (by omega) (by omega) (by omega)]
      have := hiff.mpr g; omega
    · rw [if_neg g, if_neg]
      · rw [zn_eq, zn_eq, show (2 : Int64) = lL ((2 : Nat) : Int) from rfl, lL_mul, ← Int.natCast_mul]
      · rw [lg_cmp_ge, lL_le (by omega) (by omega) (by omega) (by omega)]
        have := fun h => g (hiff.mp h); omega
  have hB : B * 2 ≤ 4611686018427387904 := by omega
  rw [← eT]
  obtain ⟨r, hr, m, M1, rfl, h1, h2, h3, h4⟩ : ∃ r, zlp (zu2 (fX7_nearest_L16 (iI b) (lL (T : Int)))) zfu (lL (a : Int), M0) = some r ∧ ∃ m M1, r = (lL ((a * 2 ^ m : Nat) : Int), M1) ∧ mOK a b N m ∧ m ≤ N + 20 ∧ M1 60 25 = iI (-(m : Int)) ∧ ∀ c j, (c ≠ 60 ∨ j ≠ 25) → M1 c j = M0 c j := by
    refine zlp_inv (I := fun i p => p.1 = lL ((a * 2 ^ i : Nat) : Int) ∧ a * 2 ^ i < B * 2 ∧ i ≤ N + 20 ∧ p.2 60 25 = iI (-(i : Int)) ∧ ∀ c j, (c ≠ 60 ∨ j ≠ 25) → p.2 c j = M0 c j) _ (N + 20) (by omega) ⟨by dsimp only; rw [Nat.pow_zero, Nat.mul_one], by rw [Nat.pow_zero, Nat.mul_one]; omega, by omega, hM0, fun _ _ _ => rfl⟩ ?_ ?_
    · rintro i ⟨x, M2⟩ hi ⟨e1, a1, a2, a3, a4⟩
      dsimp only at e1 a3 a4
      have ht := test (a * 2 ^ i) M2 a1
      by_cases g : B ≤ a * 2 ^ i
      · rw [if_pos g] at ht
        exact Or.inr ⟨_, by rw [e1]; exact ht, i, M2, rfl, ⟨by rw [← eB]; exact g, by rw [hbp, ← eB]; exact a1⟩, a2, a3, a4⟩
      · rw [if_neg g] at ht
        refine Or.inl ⟨_, by rw [e1]; exact ht, ?_, ?_, by omega, ?_, ?_⟩
        · dsimp only; rw [Nat.pow_succ, Nat.mul_assoc]
        · rw [Nat.pow_succ, ← Nat.mul_assoc]; omega
        · dsimp only; rw [zwr_s, a3, li_1, iI_sub]; congr 1; omega
        · intro c j h
          dsimp only
          rcases Classical.em (c = 60) with e | e
          · subst e; rw [zwr_k (by omega)]; exact a4 _ _ h
          · rw [zwr_o e]; exact a4 _ _ h
    · rintro ⟨x, M2⟩ ⟨e1, a1, a2, a3, a4⟩
      dsimp only at e1 a3 a4
      have ht := test (a * 2 ^ (N + 20)) M2 a1
      have g : B ≤ a * 2 ^ (N + 20) := by
        have k1 : 2 ^ (N + 20) = 2 ^ N * 1048576 := by rw [Nat.pow_add]
        rw [k1, eB]
        have k2 : b * 2 ^ N ≤ 1048576 * 2 ^ N := Nat.mul_le_mul_right _ (by omega)
        have k3 : 1 * (2 ^ N * 1048576) ≤ a * (2 ^ N * 1048576) := Nat.mul_le_mul_right _ ha
        omega
      rw [if_pos g] at ht
      exact ⟨_, by rw [e1]; exact ht, N + 20, M2, rfl, ⟨by rw [← eB]; exact g, by rw [hbp, ← eB]; exact a1⟩, a2, a3, a4⟩
  exact ⟨m, M1, hr, h1, h2, h3, h4⟩
