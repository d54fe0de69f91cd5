/-! rest -/
theorem lL_ush {n : Nat} (h : n < 9223372036854775808) : zushl (lL (n : Int)) (52 : Int32) = lL ((n / 4503599627370496 : Nat) : Int) := by
  rw [lL_nat, lL_nat]
  apply Int64.toBitVec_inj.mp
  show BitVec.ofNat 64 n >>> (UInt64.mod ((52 : Int32).toInt64.toUInt64 &&& Int64.toUInt64 63) 64).toBitVec = BitVec.ofNat 64 (n / 4503599627370496)
  rw [show (UInt64.mod ((52 : Int32).toInt64.toUInt64 &&& Int64.toUInt64 63) 64).toBitVec = BitVec.ofNat 64 52 from by decide +kernel]
  apply BitVec.eq_of_toNat_eq
  rw [BitVec.ushiftRight_eq', BitVec.toNat_ushiftRight, BitVec.toNat_ofNat, BitVec.toNat_ofNat, BitVec.toNat_ofNat, Nat.mod_eq_of_lt (show n < 2 ^ 64 by omega), Nat.mod_eq_of_lt (show 52 < 2 ^ 64 by decide), Nat.shiftRight_eq_div_pow, Nat.mod_eq_of_lt (show n / 4503599627370496 < 2 ^ 64 by omega)] <;> rfl
theorem lL_int (z : Int) : (lL z).toInt32 = iI z := Int64.toInt32_ofInt
theorem lL_mask {n e : Nat} (hn : n < 9223372036854775808) (he : e < 63) : lL (n : Int) &&& lL ((2 ^ e - 1 : Nat) : Int) = lL ((n % 2 ^ e : Nat) : Int) := by
  have h2 : 2 ^ e ≤ 2 ^ 62 := Nat.pow_le_pow_right (by decide) (by omega)
  have h0 : 0 < 2 ^ e := Nat.two_pow_pos e
  have h3 := Nat.mod_lt n h0
  rw [lL_nat, lL_nat, lL_nat]
  apply Int64.toBitVec_inj.mp
  rw [Int64.toBitVec_and, show (Int64.ofNat n).toBitVec = BitVec.ofNat 64 n from rfl, show (Int64.ofNat (2 ^ e - 1)).toBitVec = BitVec.ofNat 64 (2 ^ e - 1) from rfl, show (Int64.ofNat (n % 2 ^ e)).toBitVec = BitVec.ofNat 64 (n % 2 ^ e) from rfl]
  apply BitVec.eq_of_toNat_eq
  rw [BitVec.toNat_and, BitVec.toNat_ofNat, BitVec.toNat_ofNat, BitVec.toNat_ofNat, Nat.mod_eq_of_lt (show n < 2 ^ 64 by omega), Nat.mod_eq_of_lt (show 2 ^ e - 1 < 2 ^ 64 by omega), Nat.and_two_pow_sub_one_eq_mod, Nat.mod_eq_of_lt (show n % 2 ^ e < 2 ^ 64 by omega)]
theorem lead {T d : Nat} : ∀ n, T ≤ d * 2 ^ n → ∃ k, k ≤ n ∧ T ≤ d * 2 ^ k ∧ ∀ i, i < k → d * 2 ^ i < T
  | 0, h => ⟨0, Nat.le_refl _, h, fun i hi => absurd hi (by omega)⟩
  | n + 1, h => by
    rcases Nat.lt_or_ge (d * 2 ^ n) T with g | g
    · refine ⟨n + 1, Nat.le_refl _, h, fun i hi => ?_⟩
      have : d * 2 ^ i ≤ d * 2 ^ n := Nat.mul_le_mul_left d (Nat.pow_le_pow_right (by decide) (by omega))
      omega
    · obtain ⟨k, a, b, c⟩ := lead n g
      exact ⟨k, by omega, b, c⟩
theorem zwr_id (M : zMem) (c k : Nat) : zwr M c k (M c k) = M := by
  funext c' k'
  unfold zwr upd
  split
  · subst_vars
    dsimp only
    split
    · subst_vars; rfl
    · rfl
  · rfl
theorem r_lead {M3 : zMem} {d k e : Nat} (hk : k ≤ 52) (h1 : 4503599627370496 ≤ d * 2 ^ k) (h2 : d * 2 ^ k < 9007199254740992) (hl : ∀ i, i < k → d * 2 ^ i < 4503599627370496) (hM : M3 60 25 = iI (-(e : Int))) : ∃ M4, zlp (zu2 fX7_rest_L65) zfu (M3, lL (d : Int)) = some (M4, lL ((d * 2 ^ k : Nat) : Int)) ∧ M4 60 25 = iI (-((e + k : Nat) : Int)) ∧ ∀ c j, (c ≠ 60 ∨ j ≠ 25) → M4 c j = M3 c j := by
  refine ⟨zwr M3 60 25 (iI (-((e + k : Nat) : Int))), ?_, zwr_s, ?_⟩
  · refine zlp_seq (S := fun i => (zwr M3 60 25 (iI (-((e + i : Nat) : Int))), lL ((d * 2 ^ i : Nat) : Int))) _ k (by omega) ?_ (fun i hi => ?_) ?_
    · show (M3, lL (d : Int)) = (zwr M3 60 25 (iI (-((e + 0 : Nat) : Int))), lL ((d * 2 ^ 0 : Nat) : Int))
      rw [Nat.pow_zero, Nat.mul_one, Nat.add_zero, ← hM, zwr_id]
    · have hi2 := hl i hi
      show fX7_rest_L65 (zwr M3 60 25 (iI (-((e + i : Nat) : Int)))) (lL ((d * 2 ^ i : Nat) : Int)) = some (.inl (zwr M3 60 25 (iI (-((e + (i + 1) : Nat) : Int))), lL ((d * 2 ^ (i + 1) : Nat) : Int)))
      rw [Nat.pow_succ, ← Nat.mul_assoc]
      obtain ⟨Y, eY⟩ : ∃ Y, Y = d * 2 ^ i := ⟨_, rfl⟩
      rw [← eY] at hi2 ⊢
      unfold fX7_rest_L65
      rw [if_neg (by rw [lg_cmp_ge, show (4503599627370496 : Int64) = lL 4503599627370496 from rfl, lL_le (by omega) (by omega) (by omega) (by omega)]; omega), zn_eq, zn_eq, zwr_s, zwr_zwr, li_1, iI_sub, show (2 : Int64) = lL ((2 : Nat) : Int) from rfl, lL_mul, ← Int.natCast_mul, show -((e + i : Nat) : Int) - 1 = -((e + (i + 1) : Nat) : Int) by omega]
    · show fX7_rest_L65 _ (lL ((d * 2 ^ k : Nat) : Int)) = _
      obtain ⟨Y, eY⟩ : ∃ Y, Y = d * 2 ^ k := ⟨_, rfl⟩
      rw [← eY] at h1 h2 ⊢
      unfold fX7_rest_L65
      rw [if_pos (by rw [lg_cmp_ge, show (4503599627370496 : Int64) = lL 4503599627370496 from rfl, lL_le (by omega) (by omega) (by omega) (by omega)]; omega)]
  · intro c j h
    rcases Classical.em (c = 60) with e | e
    · subst e; rw [zwr_k (by omega)]
    · rw [zwr_o e]
theorem c_lead {d k : Nat} {x : Int} (hk : k ≤ 52) (h1 : 4503599627370496 ≤ d * 2 ^ k) (h2 : d * 2 ^ k < 9007199254740992) (hl : ∀ i, i < k → d * 2 ^ i < 4503599627370496) : zlp (zu3 fX1_doubleAboveWhole_L53) zfu ((0 : Int32), lL (d : Int), iI x) = some (iI (k : Int), lL ((d * 2 ^ k : Nat) : Int), iI (x - (k : Int))) := by
  refine zlp_seq (S := fun i => (iI (i : Int), lL ((d * 2 ^ i : Nat) : Int), iI (x - (i : Int)))) _ k (by omega) ?_ (fun i hi => ?_) ?_
  · show ((0 : Int32), lL (d : Int), iI x) = (iI ((0 : Nat) : Int), lL ((d * 2 ^ 0 : Nat) : Int), iI (x - ((0 : Nat) : Int)))
    rw [Nat.pow_zero, Nat.mul_one, show x - ((0 : Nat) : Int) = x by omega]; rfl
  · have hi2 := hl i hi
    show fX1_doubleAboveWhole_L53 (iI (i : Int)) (lL ((d * 2 ^ i : Nat) : Int)) (iI (x - (i : Int))) = some (.inl (iI ((i + 1 : Nat) : Int), lL ((d * 2 ^ (i + 1) : Nat) : Int), iI (x - ((i + 1 : Nat) : Int))))
    rw [Nat.pow_succ, ← Nat.mul_assoc]
    obtain ⟨Y, eY⟩ : ∃ Y, Y = d * 2 ^ i := ⟨_, rfl⟩
    rw [← eY] at hi2 ⊢
    unfold fX1_doubleAboveWhole_L53
    rw [li_52, flt_n (by omega) (by omega) (by omega), if_neg (by rw [lg_cmp_ge, show (4503599627370496 : Int64) = lL 4503599627370496 from rfl, lL_le (by omega) (by omega) (by omega) (by omega)]; omega), show (-1 : Int32) = iI (-1) from rfl, show (1 : Int32) = iI ((1 : Nat) : Int) from rfl, zn_eq, l_shl Y (by omega), iI_add, iI_add, show (i : Int) + ((1 : Nat) : Int) = ((i + 1 : Nat) : Int) by omega, show x - (i : Int) + -1 = x - ((i + 1 : Nat) : Int) by omega, Nat.pow_one]
  · show fX1_doubleAboveWhole_L53 (iI (k : Int)) (lL ((d * 2 ^ k : Nat) : Int)) (iI (x - (k : Int))) = some (.inr (iI (k : Int), lL ((d * 2 ^ k : Nat) : Int), iI (x - (k : Int))))
    obtain ⟨Y, eY⟩ : ∃ Y, Y = d * 2 ^ k := ⟨_, rfl⟩
    rw [← eY] at h1 h2 ⊢
    unfold fX1_doubleAboveWhole_L53
    rw [li_52, flt_n (by omega) (by omega) (by omega), if_pos (by rw [lg_cmp_ge, show (4503599627370496 : Int64) = lL 4503599627370496 from rfl, lL_le (by omega) (by omega) (by omega) (by omega)]; omega)]
theorem r_bits0 {M2 : zMem} {D e : Nat} (he : e ≤ 200) (h1 : M2 60 25 = iI (-(e : Int))) : fX7_bits (53 : Int32) (1023 : Int32) M2 (lL (D : Int)) = some (lL ((1075 - (e : Int)) * 4503599627370496 + (D : Int) - 4503599627370496)) := by
  have hsh : (1 : Int64) <<< (((53 : Int32) - (1 : Int32)).toInt64 &&& 63) = lL 4503599627370496 := by decide +kernel
  unfold fX7_bits
  rw [zn_eq, hsh, h1, li_53, li_1023, iI_add, iI_long (by omega) (by omega), iI_long (by omega) (by omega), show (1 : Int64) = lL 1 from rfl, lL_sub, lL_add, lL_mul, lL_add, lL_sub, show -(e : Int) + 53 - 1 + 1023 = 1075 - (e : Int) by omega]
theorem c_pack {e k Y : Nat} (hk : e + k ≤ 200) : fX1_packed (iI (52 - (e : Int) - (k : Int))) (lL (Y : Int)) (52 : Int32) (1023 : Int32) = some (lL ((1075 - ((e + k : Nat) : Int)) * 4503599627370496 + (Y : Int) - 4503599627370496)) := by
  have hsh : (1 : Int64) <<< ((52 : Int32).toInt64 &&& 63) = lL 4503599627370496 := by decide +kernel
  unfold fX1_packed
  rw [hsh, li_1023, iI_add, show 52 - (e : Int) - (k : Int) + 1023 = ((1075 - e - k : Nat) : Int) by omega, iI_long (by omega) (by omega), show (52 : Int32) = iI ((52 : Nat) : Int) from rfl, l_shl _ (by omega), show 2 ^ 52 = 4503599627370496 by decide, lL_add, lL_sub]
  congr 2
  omega
def rtail (M8 : zMem) (F9 : Int64) : Option (Int64 × zMem × Int64) := zc (decide (¬ ((1 : Int64) <<< (((-(M8 60 25))).toInt64 &&& 63)) = 0)) (zn (F9 - F9 / ((1 : Int64) <<< (((-(M8 60 25))).toInt64 &&& 63)) * ((1 : Int64) <<< (((-(M8 60 25))).toInt64 &&& 63))) (fun (F11 : Int64) => if (lg_cmp F11 (0 : Int64)) = 0 then (some ((0 : Int64), M8, F11)) else (zb1 (zlp (zu2 fX7_rest_L65) zfu (M8, F11)) (zu2 (fun (M24 : zMem) (F25 : Int64) => zb1 (fX7_bits (53 : Int32) (1023 : Int32) M24 F25) (fun (r27 : Int64) => some (r27, M24, F25)))))))
theorem zu2_eq {α β δ : Type} (k : α → β → δ) (a : α) (b : β) : zu2 k (a, b) = k a b := rfl
theorem zu3_eq {α β γ δ : Type} (k : α → β → γ → δ) (a : α) (b : β) (c : γ) : zu3 k (a, b, c) = k a b c := rfl
theorem st_frac {M3 : zMem} {D e : Nat} (he : e ≤ 60) (h1 : 4503599627370496 ≤ D) (h2 : D < 9007199254740992) (hM : M3 60 25 = iI (-(e : Int))) : ∃ o M4 F4, fX1_doubleAboveWhole (lL ((1075 - (e : Int)) * 4503599627370496 + (D : Int) - 4503599627370496)) = some o ∧ rtail M3 (lL (D : Int)) = some (o, M4, F4) ∧ ∀ c j, (c ≠ 60 ∨ j ≠ 25) → M4 c j = M3 c j := by
  obtain ⟨X, eX⟩ : ∃ X : Nat, (X : Int) = (1075 - (e : Int)) * 4503599627370496 + (D : Int) - 4503599627370496 := ⟨(1075 - e) * 4503599627370496 + D - 4503599627370496, by omega⟩
  rw [← eX]
  have hX : X < 9223372036854775808 := by omega
  have hq : X / 4503599627370496 = 1075 - e := by omega
  have hpow : ((zushl (lL (X : Int)) (52 : Int32)).toInt32) - (1023 : Int32) = iI (52 - (e : Int)) := by
    rw [lL_ush hX, hq, lL_int, li_1023, iI_sub]; congr 1; omega
  have h0 : 0 < 2 ^ e := Nat.two_pow_pos e
  have hE : 2 ^ e ≤ 2 ^ 60 := Nat.pow_le_pow_right (by decide) he
  have hsh : (1 : Int64) <<< ((iI (e : Int)).toInt64 &&& 63) = lL ((2 ^ e : Nat) : Int) := by
    rw [show (1 : Int64) = lL ((1 : Nat) : Int) from rfl, l_shl 1 (by omega), Nat.one_mul]
  have hmk : ∀ _ : e ≤ 52, lL (X : Int) &&& lL ((2 ^ e - 1 : Nat) : Int) = lL ((D % 2 ^ e : Nat) : Int) := by
    intro g
    rw [lL_mask hX (by omega)]
    have hT : 4503599627370496 = 2 ^ e * 2 ^ (52 - e) := by rw [← Nat.pow_add, show e + (52 - e) = 52 by omega]
    have hXD : X = D + 2 ^ e * (2 ^ (52 - e) * (1074 - e)) := by
      rw [← Nat.mul_assoc, ← hT]; omega
    rw [hXD, Nat.add_mul_mod_self_left]
  have hE53 : 52 < e → 9007199254740992 ≤ 2 ^ e := fun g => Nat.le_trans (show 9007199254740992 ≤ 2 ^ 53 by decide) (Nat.pow_le_pow_right (by decide) g)
  have hE52 : e ≤ 52 → 2 ^ e ≤ 4503599627370496 := fun g => Nat.le_trans (Nat.pow_le_pow_right (by decide) g) (show 2 ^ 52 ≤ 4503599627370496 by decide)
  have hE1 : e = 0 → 2 ^ e = 1 := fun g => by rw [g, Nat.pow_zero]
  have hsm : ((2 ^ e : Nat) : Int) - 1 = ((2 ^ e - 1 : Nat) : Int) := by omega
  obtain ⟨E, eE⟩ : ∃ E, E = 2 ^ e := ⟨_, rfl⟩
  rw [← eE] at h0 hE hsh hmk hE53 hE52 hE1 hsm
  have hmod := lL_mod (a := D) (b := E) (by omega) (by omega) (by omega)
  have hdl := Nat.mod_lt D h0
  have hdm : 52 < e → D % E = D := fun g => Nat.mod_eq_of_lt (by have := hE53 g; omega)
  have hd1 : e = 0 → D % E = 0 := fun g => by rw [hE1 g, Nat.mod_one]
  obtain ⟨d, ed⟩ : ∃ d, d = D % E := ⟨_, rfl⟩
  rw [← ed] at hmod hdl hdm hmk hd1
  have hrt : ∀ r, (if (lg_cmp (lL (d : Int)) (0 : Int64)) = 0 then (some ((0 : Int64), M3, lL (d : Int))) else (zb1 (zlp (zu2 fX7_rest_L65) zfu (M3, lL (d : Int))) (zu2 (fun (M24 : zMem) (F25 : Int64) => zb1 (fX7_bits (53 : Int32) (1023 : Int32) M24 F25) (fun (r27 : Int64) => some (r27, M24, F25)))))) = r → rtail M3 (lL (D : Int)) = r := by
    intro r hr
    unfold rtail
    rw [hM, iI_neg, Int.neg_neg, hsh, zc_t (by rw [decide_eq_true_iff, show (0 : Int64) = lL 0 from rfl, lL_eq (by omega) (by omega) (by omega) (by omega)]; omega), hmod, zn_eq]
    exact hr
  rcases Nat.eq_zero_or_pos d with zd | zd
  · have ge : e ≤ 52 := Nat.le_of_not_lt fun g => by have := hdm g; omega
    subst zd
    refine ⟨0, M3, lL ((0 : Nat) : Int), ?_, hrt _ (by rw [if_pos (by rw [lg_cmp_eq]; rfl)]), fun _ _ _ => rfl⟩
    have hx3 : (if (52 : Int32) ≤ iI (52 - (e : Int)) then (0 : Int64) else (lL (X : Int) &&& (((1 : Int64) <<< ((((52 : Int32) - iI (52 - (e : Int)))).toInt64 &&& 63)) - (1 : Int64)))) = lL ((0 : Nat) : Int) := by
      rw [li_52]
      rcases Nat.eq_zero_or_pos e with z | z
      · rw [fle_p (by omega) (by omega) (by omega)]; rfl
      · rw [fle_n (by omega) (by omega) (by omega), iI_sub, show (52 : Int) - (52 - (e : Int)) = (e : Int) by omega, hsh, show (1 : Int64) = lL 1 from rfl, lL_sub, hsm, hmk ge]
    have hp0 : (0 : Int32) ≤ iI (52 - (e : Int)) := by rw [li_0, iI_le (by omega) (by omega) (by omega) (by omega)]; omega
    unfold fX1_doubleAboveWhole
    rw [zn_eq, hpow, if_pos hp0, hx3, zn_eq, if_pos (by rw [lg_cmp_eq]; rfl)]
  · have hdT : e ≤ 52 → d < 4503599627370496 := fun g => by have := hE52 g; omega
    obtain ⟨k, hk, k1, k2, hle⟩ : ∃ k, k ≤ 52 ∧ 4503599627370496 ≤ d * 2 ^ k ∧ d * 2 ^ k < 9007199254740992 ∧ (∀ i, i < k → d * 2 ^ i < 4503599627370496) := by
      obtain ⟨k, q1, q2, q3⟩ := lead (T := 4503599627370496) (d := d) 52 (by rw [show 2 ^ 52 = 4503599627370496 by decide]; omega)
      refine ⟨k, q1, q2, ?_, q3⟩
      rcases k with _ | j
      · rw [Nat.pow_zero, Nat.mul_one]
        rcases Nat.lt_or_ge 52 e with g | g
        · rw [hdm g]; exact h2
        · have := hdT g; omega
      · have := q3 j (by omega)
        rw [Nat.pow_succ, ← Nat.mul_assoc]; omega
    obtain ⟨M4, r1, r2, r3⟩ := r_lead hk k1 k2 hle hM
    have hdn : ¬ (lg_cmp (lL (d : Int)) (0 : Int64)) = 0 := by
      rw [lg_cmp_eq, show (0 : Int64) = lL 0 from rfl, lL_eq (by omega) (by omega) (by omega) (by omega)]; omega
    have hb := r_bits0 (D := d * 2 ^ k) (by omega) r2
    refine ⟨lL ((1075 - ((e + k : Nat) : Int)) * 4503599627370496 + ((d * 2 ^ k : Nat) : Int) - 4503599627370496), M4, lL ((d * 2 ^ k : Nat) : Int), ?_, hrt _ (by rw [if_neg hdn, r1, zb1_eq, zu2_eq, hb, zb1_eq]), r3⟩
    rcases Nat.lt_or_ge 52 e with g | g
    · have ek : k = 0 := Nat.eq_zero_of_not_pos fun q => by
        have := hle 0 q
        rw [Nat.pow_zero, Nat.mul_one, hdm g] at this
        omega
      subst ek
      have hn0 : ¬ (0 : Int32) ≤ iI (52 - (e : Int)) := by rw [li_0, iI_le (by omega) (by omega) (by omega) (by omega)]; omega
      unfold fX1_doubleAboveWhole
      rw [zn_eq, hpow, if_neg hn0, Nat.pow_zero, Nat.mul_one, hdm g, Nat.add_zero, eX]
    · have hx3 : (if (52 : Int32) ≤ iI (52 - (e : Int)) then (0 : Int64) else (lL (X : Int) &&& (((1 : Int64) <<< ((((52 : Int32) - iI (52 - (e : Int)))).toInt64 &&& 63)) - (1 : Int64)))) = lL (d : Int) := by
        rw [li_52]
        rcases Nat.eq_zero_or_pos e with z | z
        · have := hd1 z; omega
        · rw [fle_n (by omega) (by omega) (by omega), iI_sub, show (52 : Int) - (52 - (e : Int)) = (e : Int) by omega, hsh, show (1 : Int64) = lL 1 from rfl, lL_sub, hsm, hmk g]
      have hp0 : (0 : Int32) ≤ iI (52 - (e : Int)) := by rw [li_0, iI_le (by omega) (by omega) (by omega) (by omega)]; omega
      unfold fX1_doubleAboveWhole
      rw [zn_eq, hpow, if_pos hp0, hx3, zn_eq, if_neg hdn, c_lead hk k1 k2 hle, zb1_eq, zu3_eq, c_pack (by omega), zb1_eq]
theorem nrm {M2 : zMem} {F2 : Int64} {a b m : Nat} (h0 : 0 < m) (hlo : 2 ^ 52 ≤ rdg a b m) (h : (rdg a b m < 2 ^ (52 + 1) ∧ M2 60 25 = iI (-(m : Int)) ∧ F2 = lL (rdg a b m : Int)) ∨ (rdg a b m = 2 ^ (52 + 1) ∧ M2 60 25 = iI (-(m : Int) + 1) ∧ F2 = lL ((2 ^ 52 : Nat) : Int))) : ∃ D e : Nat, e ≤ m ∧ 4503599627370496 ≤ D ∧ D < 9007199254740992 ∧ M2 60 25 = iI (-(e : Int)) ∧ F2 = lL (D : Int) ∧ nbt a b 52 1023 m = lL ((1075 - (e : Int)) * 4503599627370496 + (D : Int) - 4503599627370496) := by
  have hp53 : 2 ^ (52 + 1) = 9007199254740992 := by decide
  have hp52 : 2 ^ 52 = 4503599627370496 := by decide
  unfold nbt
  rw [hp53, hp52] at h
  rw [hp52] at hlo ⊢
  obtain ⟨D, eD⟩ : ∃ D, D = rdg a b m := ⟨_, rfl⟩
  rw [← eD] at h hlo ⊢
  rcases h with ⟨q1, q2, q3⟩ | ⟨q1, q2, q3⟩
  · exact ⟨D, m, Nat.le_refl _, hlo, q1, q2, q3, by congr 1; omega⟩
  · exact ⟨4503599627370496, m - 1, by omega, by omega, by omega, by rw [q2]; congr 1; omega, q3, by congr 1; omega⟩
theorem dAW0 : fX1_doubleAboveWhole 0 = some 0 := by decide +kernel
theorem st_rest {M : zMem} (h : Rl M) (F0 : Int64) : ∃ o M1 M2 F2, fX6_rest M = some (o, M1) ∧ fX7_rest M1 F0 = some (o, M2, F2) ∧ Rl M2 := by
  have hR := h
  obtain ⟨⟨w, P, h1, h2, -⟩, -⟩ := h
  have hw := h1.2.1
  obtain ⟨L, F, pt, M1, e1, t1, o1, hL, hF, hpt, M2, e2, t2, o2⟩ := st_base h1 h2
  have hR2 : Rl M2 := Rl_ag (Rl_ag hR (cBo_ag o1)) (rLo_ag o2)
  have n1 := t1.1
  have n2 := t2.1
  rcases Nat.eq_zero_or_pos L with z | z
  · subst z
    refine ⟨-9223372036854775808, M1, M2, F0, ?_, ?_, hR2⟩
    · unfold fX6_rest fX0_length
      rw [e1, zb1_eq, zb1_eq, n1, zj_eq, if_pos (by decide)]
    · unfold fX7_rest
      rw [e2, zb1_eq, n2, if_pos (by decide)]
  · have hF' := hF z
    have hs := si_bd L hpt
    have c1 := r_sumOf z (show F + L ≤ 24 by omega) t2
    have m6 := t1.2.1
    obtain ⟨S, eS⟩ : ∃ S : Nat, fb_si pt L = (S : Int) := ⟨(fb_si pt L).toNat, by omega⟩
    rw [eS] at hs c1 m6
    have hcl : ∀ o o', fX1_nearest (lL (S : Int)) (lL (L : Int)) (iI ((52 : Nat) : Int)) (iI ((1023 : Nat) : Int)) = some o → fX1_doubleAboveWhole o = some o' → fX6_rest M = some (o', M1) := by
      intro o o' ho ho'
      unfold fX6_rest fX0_length fX0_meanBits fX1_nearestDouble
      rw [e1, zb1_eq, zb1_eq, n1, zj_eq, li_0, feq_n (by omega) (by omega) (by omega), m6, iI_long (by omega) (by omega), iI_long (by omega) (by omega), show (52 : Int32) = iI ((52 : Nat) : Int) from rfl, show (1023 : Int32) = iI ((1023 : Nat) : Int) from rfl, ho, zb1_eq, zb1_eq, zb1_eq, ho', zb1_eq]
    rcases Nat.eq_zero_or_pos S with zs | zs
    · subst zs
      refine ⟨0, M1, M2, F0, hcl 0 0 (near_0 _ _ _) dAW0, ?_, hR2⟩
      unfold fX7_rest
      rw [e2, zb1_eq, n2, if_neg (by rw [li_0, iI_eq (by omega) (by omega) (by omega) (by omega)]; omega), c1, zb1_eq, if_pos (show iI ((0 : Nat) : Int) = 0 from rfl)]
    · have hp53 : 2 ^ (52 + 1) = 9007199254740992 := by decide
      have hp52 : 2 ^ 52 = 4503599627370496 := by decide
      obtain ⟨M3, F3, m, e3, g1, g2, g3, g4, g5, g6⟩ := r_nearest (M := M2) (F := F0) (a := S) (b := L) (N := 52) zs (by omega) z (by omega) (by omega) (by rw [hp53]; omega) (by rw [hp53]; omega)
      have hcn := c_nearest zs (by omega) z (by omega) (by omega) (by omega) (show 100 ≤ 1023 by omega) (by omega) g1 (by rw [hp52]; omega)
      have hm0 : 0 < m := Nat.pos_of_ne_zero fun q => by
        have := g1.1
        rw [q, Nat.pow_zero, Nat.mul_one, hp52] at this
        omega
      have hm1 : m ≤ 57 := Nat.le_of_not_lt fun q => by
        have k1 := g1.2
        rw [hp53] at k1
        have k2 : 2 ^ 58 ≤ 2 ^ m := Nat.pow_le_pow_right (by decide) q
        have k3 : 1 * 2 ^ m ≤ S * 2 ^ m := Nat.mul_le_mul_right _ zs
        rw [show 2 ^ 58 = 288230376151711744 by decide] at k2
        omega
      obtain ⟨D, e, he, d1, d2, d3, d4, d5⟩ := nrm hm0 g5 g6
      obtain ⟨o, M4, F4, f1, f2, f3⟩ := st_frac (M3 := M3) (show e ≤ 60 by omega) d1 d2 d3
      rw [d5] at hcn
      refine ⟨o, M1, M4, F4, hcl _ _ hcn f1, ?_, Rl_ag (Rl_ag hR2 (Ag_25 g3)) (Ag_25 f3)⟩
      unfold fX7_rest
      rw [e2, zb1_eq, n2, if_neg (by rw [li_0, iI_eq (by omega) (by omega) (by omega) (by omega)]; omega), c1, zb1_eq, if_neg (by rw [li_0, iI_eq (by omega) (by omega) (by omega) (by omega)]; omega), zb1_eq, show (53 : Int32) = iI ((52 + 1 : Nat) : Int) from rfl, e3, zb2_eq, d4]
      exact f2
