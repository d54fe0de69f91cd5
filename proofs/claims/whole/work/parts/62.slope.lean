/-! slope -/
def cS (F : Nat) (i : Nat) : Int := ((F + i : Nat) : Int)
def cQ (F : Nat) (i : Nat) : Int := ((F + i : Nat) : Int) * ((F + i : Nat) : Int)
def cX (F : Nat) (pt : Nat → Int) (i : Nat) : Int := ((F + i : Nat) : Int) * pt i
theorem c_slL {M : zMem} {L F : Nat} {pt : Nat → Int} (hL : 0 < L) (hL2 : F + L ≤ 24) (hM : cBl M L F pt) : zlp (zu4 (fX0_slopeBits_L12 M)) zfu (iI F, iI 0, iI 0, iI 0) = some (iI ((F + L : Nat) : Int), iI (fb_si (cX F pt) L), iI (fb_si (cQ F) L), iI (fb_si (cS F) L)) := by
  obtain ⟨f1, f2⟩ := hM.2.2 hL
  refine zlp_seq (S := fun i => (iI ((F + i : Nat) : Int), iI (fb_si (cX F pt) i), iI (fb_si (cQ F) i), iI (fb_si (cS F) i))) _ L (by omega) rfl (fun i hi => ?_) ?_
  · show fX0_slopeBits_L12 M (iI ((F + i : Nat) : Int)) (iI (fb_si (cX F pt) i)) (iI (fb_si (cQ F) i)) (iI (fb_si (cS F) i)) = _
    unfold fX0_slopeBits_L12
    rw [f1, hM.1, iI_add, fle_n (by omega) (by omega) (by omega), zn_eq, zn_eq, c_footRow hL2 hi hM, zb1_eq, zn_eq, iI_mul, iI_mul, iI_add, iI_add, iI_add, li_1, iI_add, fb_si_succ, fb_si_succ, fb_si_succ]
    rfl
  · show fX0_slopeBits_L12 M (iI ((F + L : Nat) : Int)) _ _ _ = _
    unfold fX0_slopeBits_L12
    rw [f1, hM.1, iI_add, fle_p (by omega) (by omega) (by omega)]
theorem r_slL {M : zMem} {L F : Nat} {pt : Nat → Int} (hL : 0 < L) (hL2 : F + L ≤ 24) (hM : rBl M L F pt) : zlp (zu4 (fX7_slope_L30 M (iI L))) zfu (iI 0, iI 0, iI 0, iI 0) = some (iI (L : Int), iI (fb_si (cQ F) L), iI (fb_si (cX F pt) L), iI (fb_si (cS F) L)) := by
  obtain ⟨f1, f2⟩ := hM.2 hL
  refine zlp_seq (S := fun i => (iI (i : Int), iI (fb_si (cQ F) i), iI (fb_si (cX F pt) i), iI (fb_si (cS F) i))) _ L (by omega) rfl (fun i hi => ?_) ?_
  · show fX7_slope_L30 M (iI L) (iI (i : Int)) (iI (fb_si (cQ F) i)) (iI (fb_si (cX F pt) i)) (iI (fb_si (cS F) i)) = _
    unfold fX7_slope_L30
    rw [fle_n (by omega) (by omega) (by omega), zn_eq, f1, iI_add, show (F : Int) + (i : Int) = ((F + i : Nat) : Int) by omega, zn_eq, zc_in (by omega) (by omega) (by omega), zn_eq, zn_eq, iI_natN (by omega), f2 i hi, iI_mul, iI_mul, iI_add, iI_add, iI_add, li_1, iI_add, fb_si_succ, fb_si_succ, fb_si_succ]
    rfl
  · show fX7_slope_L30 M (iI L) (iI (L : Int)) _ _ _ = _
    unfold fX7_slope_L30
    rw [fle_p (by omega) (by omega) (by omega)]
