/-! slope -/
def cS (F : Nat) (i : Nat) : Int := ((F + i : Nat) : Int)
def cQ (F : Nat) (i : Nat) : Int := ((F + i : Nat) : Int) * ((F + i : Nat) : Int)
def cX (F : Nat) (pt : Nat → Int) (i : Nat) : Int := ((F + i : Nat) : Int) * pt i
theorem c_slL {M : zMem} {L F : Nat} {pt : Nat → Int} (hL : 0 < L) (hL2 : F + L ≤ 24) (hM : cBl M L F pt) : zlp (zu4 (fX0_slopeBits_L12 M)) zfu (iI F, iI 0, iI 0, iI 0) = some (iI ((F + L : Nat) : Int), iI (fb_si (cX F pt) L), iI (fb_si (cQ F) L), iI (fb_si (cS F) L)) := by
  obtain ⟨f1, f2⟩ := hM.2.2 hL
  refine zlp_seq (S := fun i => (iI ((F + i : Nat) : Int), iI (fb_si (cX F pt) i), iI (fb_si (cQ F) i), iI (fb_si (cS F) i))) _ L (by omega) rfl (fun i hi => ?_) ?_
  · show fX0_slopeBits_L12 M (iI ((F + i : Nat) : Int)) (iI (fb_si (cX F pt) i)) (iI (fb_si (cQ F) i)) (iI (fb_si (cS F) i)) = _
    unfold fX0_slopeBits_L12
    rw [f1, hM.1, iI_add, fle_n (by omega) (by omega) (by omega), zn_eq, zn_eq, c_footRow hL2 hi hM, zb1_eq, zn_eq, iI_mul, iI_mul, iI_add, iI_add, iI_add, li_1, iI_add, fb_si_succ, fb_si_succ, fb_si_succ]
    rfl
  · show fX0_slopeBits_L12 M (iI ((F + L : Nat) : Int)) _ _ _ = _
    unfold fX0_slopeBits_L12
    rw [f1, hM.1, iI_add, fle_p (by omega) (by omega) (by omega)]
theorem r_slL {M : zMem} {L F : Nat} {pt : Nat → Int} (hL : 0 < L) (hL2 : F + L ≤ 24) (hM : rBl M L F pt) : zlp (zu4 (fX7_slope_L30 M (iI L))) zfu (iI 0, iI 0, iI 0, iI 0) = some (iI (L : Int), iI (fb_si (cQ F) L), iI (fb_si (cX F pt) L), iI (fb_si (cS F) L)) := by
  obtain ⟨f1, f2⟩ := hM.2 hL
  refine zlp_seq (S := fun i => (iI (i : Int), iI (fb_si (cQ F) i), iI (fb_si (cX F pt) i), iI (fb_si (cS F) i))) _ L (by omega) rfl (fun i hi => ?_) ?_
  · show fX7_slope_L30 M (iI L) (iI (i : Int)) (iI (fb_si (cQ F) i)) (iI (fb_si (cX F pt) i)) (iI (fb_si (cS F) i)) = _
    unfold fX7_slope_L30
    rw [fle_n (by omega) (by omega) (by omega), zn_eq, f1, iI_add, show (F : Int) + (i : Int) = ((F + i : Nat) : Int) by omega, zn_eq, zc_in (by omega) (by omega) (by omega), zn_eq, zn_eq, iI_natN (by omega), f2 i hi, iI_mul, iI_mul, iI_add, iI_add, iI_add, li_1, iI_add, fb_si_succ, fb_si_succ, fb_si_succ]
    rfl
  · show fX7_slope_L30 M (iI L) (iI (L : Int)) _ _ _ = _
    unfold fX7_slope_L30
    rw [fle_p (by omega) (by omega) (by omega)]
def slb (L F : Nat) : Bool := (!(decide (2 ≤ L) && decide (F + L ≤ 24))) || (decide (0 < (L : Int) * fb_si (cQ F) L - fb_si (cS F) L * fb_si (cS F) L) && decide ((L : Int) * fb_si (cQ F) L - fb_si (cS F) L * fb_si (cS F) L < 1048576) && decide (0 ≤ fb_si (cS F) L) && decide (fb_si (cS F) L ≤ 276))
theorem slb_all : ∀ L : Nat, L < 25 → ∀ F : Nat, F < 25 → slb L F = true := by decide +kernel
theorem slB (L : Nat) (hL : L < 25) (F : Nat) (hF : F < 25) (h1 : 2 ≤ L) (h2 : F + L ≤ 24) : 0 < (L : Int) * fb_si (cQ F) L - fb_si (cS F) L * fb_si (cS F) L ∧ (L : Int) * fb_si (cQ F) L - fb_si (cS F) L * fb_si (cS F) L < 1048576 ∧ 0 ≤ fb_si (cS F) L ∧ fb_si (cS F) L ≤ 276 := by
  have h := slb_all L hL F hF
  unfold slb at h
  rw [decide_eq_true h1, decide_eq_true h2] at h
  simp only [Bool.and_true, Bool.not_true, Bool.false_or, Bool.and_eq_true, decide_eq_true_eq] at h
  exact ⟨h.1.1.1, h.1.1.2, h.1.2, h.2⟩
theorem cX_bd {F : Nat} {pt : Nat → Int} : ∀ n, (∀ i, i < n → 0 ≤ pt i ∧ pt i < 32) → 0 ≤ fb_si (cX F pt) n ∧ fb_si (cX F pt) n ≤ 31 * fb_si (cS F) n
  | 0, _ => ⟨Int.le_refl _, Int.le_refl _⟩
  | n + 1, h => by
    have ih := cX_bd n (fun i hi => h i (by omega)) (F := F)
    have hp := h n (by omega)
    rw [fb_si_succ, fb_si_succ]
    have h1 : 0 ≤ cX F pt n := Int.mul_nonneg (by omega) hp.1
    have h2 : cX F pt n ≤ cS F n * 31 := Int.mul_le_mul_of_nonneg_left (by omega) (by omega)
    omega
theorem slA {L F : Nat} {pt : Nat → Int} {S : Int} (hL : 2 ≤ L) (hL2 : F + L ≤ 24) (h : ∀ i, i < L → 0 ≤ pt i ∧ pt i < 32) (hS : 0 ≤ S ∧ S ≤ 31 * (L : Int)) : -1048575 ≤ (L : Int) * fb_si (cX F pt) L - fb_si (cS F) L * S ∧ (L : Int) * fb_si (cX F pt) L - fb_si (cS F) L * S ≤ 1048575 := by
  obtain ⟨-, -, s1, s2⟩ := slB L (by omega) F (by omega) hL hL2
  obtain ⟨x1, x2⟩ := cX_bd (F := F) L h
  have a1 : 0 ≤ (L : Int) * fb_si (cX F pt) L := Int.mul_nonneg (by omega) x1
  have a2 : (L : Int) * fb_si (cX F pt) L ≤ 24 * fb_si (cX F pt) L := Int.mul_le_mul_of_nonneg_right (by omega) x1
  have b1 : 0 ≤ fb_si (cS F) L * S := Int.mul_nonneg s1 hS.1
  have b2 : fb_si (cS F) L * S ≤ 276 * S := Int.mul_le_mul_of_nonneg_right s2 hS.1
  omega
