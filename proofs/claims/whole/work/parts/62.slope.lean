/-! slope -/
def cS (F : Nat) (i : Nat) : Int := ((F + i : Nat) : Int)
def cQ (F : Nat) (i : Nat) : Int := ((F + i : Nat) : Int) * ((F + i : Nat) : Int)
def cX (F : Nat) (pt : Nat → Int) (i : Nat) : Int := ((F + i : Nat) : Int) * pt i
theorem c_slL {M : zMem} {L F : Nat} {pt : Nat → Int} (hL : 0 < L) (hL2 : F + L ≤ 24) (hM : cBl M L F pt) : zlp (zu4 (fX0_slopeBits_L12 M)) zfu (iI F, iI 0, iI 0, iI 0) = some (iI ((F + L : Nat) : Int), iI (fb_si (cX F pt) L), iI (fb_si (cQ F) L), iI (fb_si (cS F) L)) := by
  obtain ⟨f1, f2⟩ := hM.2.2 hL
  refine zlp_seq (S := fun i => (iI ((F + i : Nat) : Int), iI (fb_si (cX F pt) i), iI (fb_si (cQ F) i), iI (fb_si (cS F) i))) _ L (by omega) rfl (fun i hi => ?_) ?_
  · show fX0_slopeBits_L12 M (iI ((F + i : Nat) : Int)) (iI (fb_si (cX F pt) i)) (iI (fb_si (cQ F) i)) (iI (fb_si (cS F) i)) = _
    unfold fX0_slopeBits_L12
    rw [f1, hM.1, iI_add, fle_n (by omega) (by omega) (by omega), zn_eq, zn_eq, c_footRow hL2 hi hM, zb1_eq, zn_eq, iI_mul, iI_mul, iI_add, iI_add, iI_add, li_1, iI_add, fb_si_succ, fb_si_succ, fb_si_succ]
    rfl
  · show fX0_slopeBits_L12 M (iI ((F + L : Nat) : Int)) _ _ _ = _
    unfold fX0_slopeBits_L12
    rw [f1, hM.1, iI_add, fle_p (by omega) (by omega) (by omega)]
theorem r_slL {M : zMem} {L F : Nat} {pt : Nat → Int} (hL : 0 < L) (hL2 : F + L ≤ 24) (hM : rBl M L F pt) : zlp (zu4 (fX7_slope_L30 M (iI L))) zfu (iI 0, iI 0, iI 0, iI 0) = some (iI (L : Int), iI (fb_si (cQ F) L), iI (fb_si (cX F pt) L), iI (fb_si (cS F) L)) := by
  obtain ⟨f1, f2⟩ := hM.2 hL
  refine zlp_seq (S := fun i => (iI (i : Int), iI (fb_si (cQ F) i), iI (fb_si (cX F pt) i), iI (fb_si (cS F) i))) _ L (by omega) rfl (fun i hi => ?_) ?_
  · show fX7_slope_L30 M (iI L) (iI (i : Int)) (iI (fb_si (cQ F) i)) (iI (fb_si (cX F pt) i)) (iI (fb_si (cS F) i)) = _
    unfold fX7_slope_L30
    rw [fle_n (by omega) (by omega) (by omega), zn_eq, f1, iI_add, show (F : Int) + (i : Int) = ((F + i : Nat) : Int) by omega, zn_eq, zc_in (by omega) (by omega) (by omega), zn_eq, zn_eq, iI_natN (by omega), f2 i hi, iI_mul, iI_mul, iI_add, iI_add, iI_add, li_1, iI_add, fb_si_succ, fb_si_succ, fb_si_succ]
    rfl
  · show fX7_slope_L30 M (iI L) (iI (L : Int)) _ _ _ = _
    unfold fX7_slope_L30
    rw [fle_p (by omega) (by omega) (by omega)]
def slb (L F : Nat) : Bool := (!(decide (2 ≤ L) && decide (F + L ≤ 24))) || (decide (0 < (L : Int) * fb_si (cQ F) L - fb_si (cS F) L * fb_si (cS F) L) && decide ((L : Int) * fb_si (cQ F) L - fb_si (cS F) L * fb_si (cS F) L < 1048576) && decide (0 ≤ fb_si (cS F) L) && decide (fb_si (cS F) L ≤ 276))
theorem slb_all : ∀ L : Nat, L < 25 → ∀ F : Nat, F < 25 → slb L F = true := by decide +kernel
theorem slB (L : Nat) (hL : L < 25) (F : Nat) (hF : F < 25) (h1 : 2 ≤ L) (h2 : F + L ≤ 24) : 0 < (L : Int) * fb_si (cQ F) L - fb_si (cS F) L * fb_si (cS F) L ∧ (L : Int) * fb_si (cQ F) L - fb_si (cS F) L * fb_si (cS F) L < 1048576 ∧ 0 ≤ fb_si (cS F) L ∧ fb_si (cS F) L ≤ 276 := by
  have h := slb_all L hL F hF
  unfold slb at h
  rw [decide_eq_true h1, decide_eq_true h2] at h
  simp only [Bool.and_true, Bool.not_true, Bool.false_or, Bool.and_eq_true, decide_eq_true_eq] at h
  exact ⟨h.1.1.1, h.1.1.2, h.1.2, h.2⟩
theorem cX_bd {F : Nat} {pt : Nat → Int} : ∀ n, (∀ i, i < n → 0 ≤ pt i ∧ pt i < 32) → 0 ≤ fb_si (cX F pt) n ∧ fb_si (cX F pt) n ≤ 31 * fb_si (cS F) n
  | 0, _ => ⟨Int.le_refl _, Int.le_refl _⟩
  | n + 1, h => by
    have ih := cX_bd n (fun i hi => h i (by omega)) (F := F)
    have hp := h n (by omega)
    rw [fb_si_succ, fb_si_succ]
    have h1 : 0 ≤ cX F pt n := Int.mul_nonneg (by omega) hp.1
    have h2 : cX F pt n ≤ cS F n * 31 := Int.mul_le_mul_of_nonneg_left (by omega) (by omega)
    omega
theorem slA {L F : Nat} {pt : Nat → Int} {S : Int} (hL : 2 ≤ L) (hL2 : F + L ≤ 24) (h : ∀ i, i < L → 0 ≤ pt i ∧ pt i < 32) (hS : 0 ≤ S ∧ S ≤ 31 * (L : Int)) : -1048575 ≤ (L : Int) * fb_si (cX F pt) L - fb_si (cS F) L * S ∧ (L : Int) * fb_si (cX F pt) L - fb_si (cS F) L * S ≤ 1048575 := by
  obtain ⟨-, -, s1, s2⟩ := slB L (by omega) F (by omega) hL hL2
  obtain ⟨x1, x2⟩ := cX_bd (F := F) L h
  have a1 : 0 ≤ (L : Int) * fb_si (cX F pt) L := Int.mul_nonneg (by omega) x1
  have a2 : (L : Int) * fb_si (cX F pt) L ≤ 24 * fb_si (cX F pt) L := Int.mul_le_mul_of_nonneg_right (by omega) x1
  have b1 : 0 ≤ fb_si (cS F) L * S := Int.mul_nonneg s1 hS.1
  have b2 : fb_si (cS F) L * S ≤ 276 * S := Int.mul_le_mul_of_nonneg_right s2 hS.1
  omega
theorem lL_neg (a : Int) : -lL a = lL (-a) := (Int64.ofInt_neg a).symm
theorem zu4_eq {α β γ ε δ : Type} (k : α → β → γ → ε → δ) (a : α) (b : β) (c : γ) (d : ε) : zu4 k (a, b, c, d) = k a b c d := rfl
theorem c_float {A : Int} {B : Nat} {o : Int64} (hA : -1048576 < A) (hA2 : A < 1048576) (hB : B < 1048576) (h : fX1_nearest (lL (A.natAbs : Int)) (lL (B : Int)) (iI ((23 : Nat) : Int)) (iI ((127 : Nat) : Int)) = some o) : fX1_nearestFloat (iI A) (iI (B : Int)) = some (if 0 ≤ A then o.toInt32 else o.toInt32 ||| (-2147483648 : Int32)) := by
  have hab : zmabs_long (lL A) = lL (A.natAbs : Int) := by
    show (if (0 : Int64) < lL A then lL A else -lL A) = _
    rw [show (0 : Int64) = lL 0 from rfl]
    rcases Int.lt_or_le 0 A with g | g
    · rw [if_pos (by rw [lL_lt (by omega) (by omega) (by omega) (by omega)]; exact g)]; congr 1; omega
    · rw [if_neg (by rw [lL_lt (by omega) (by omega) (by omega) (by omega)]; omega), lL_neg]; congr 1; omega
  unfold fX1_nearestFloat
  rw [iI_long (by omega) (by omega), iI_long (by omega) (by omega), hab, show (23 : Int32) = iI ((23 : Nat) : Int) from rfl, show (127 : Int32) = iI ((127 : Nat) : Int) from rfl, h, zb1_eq, zn_eq, li_0]
  rcases Int.lt_or_le A 0 with g | g
  · rw [fle_n (by omega) (by omega) (by omega), if_neg (by omega)]
  · rw [fle_p (by omega) (by omega) (by omega), if_pos g]
theorem st_slope {M : zMem} (h : Rl M) (F0 : Int64) : ∃ o M1 M2 F2, fX6_slope M = some (o, M1) ∧ fX7_slope M1 F0 = some (o, M2, F2) ∧ Rl M2 := by
  have hR := h
  obtain ⟨⟨w, P, h1, h2, -⟩, -⟩ := h
  have hw := h1.2.1
  obtain ⟨L, F, pt, M1, e1, t1, o1, hL, hF, hpt, M2, e2, t2, o2⟩ := st_base h1 h2
  have hR2 : Rl M2 := Rl_ag (Rl_ag hR (cBo_ag o1)) (rLo_ag o2)
  have n1 := t1.1
  have n2 := t2.1
  rcases Nat.lt_or_ge L 2 with z | z
  · refine ⟨-3, M1, M2, F0, ?_, ?_, hR2⟩
    · unfold fX6_slope fX0_length
      rw [e1, zb1_eq, zb1_eq, n1, zj_eq, li_2, fle_n (by omega) (by omega) (by omega)]
    · unfold fX7_slope
      rw [e2, zb1_eq, n2, li_2, fle_n (by omega) (by omega) (by omega)]
  · have hF' := hF (by omega)
    have f3 := (t1.2.2 (by omega)).1
    have m6 := t1.2.1
    have c1 := c_slL (show 0 < L by omega) (show F + L ≤ 24 by omega) t1
    have c2 := r_slL (show 0 < L by omega) (show F + L ≤ 24 by omega) t2
    have c3 := r_sumOf (show 0 < L by omega) (show F + L ≤ 24 by omega) t2
    have hs := si_bd L hpt
    obtain ⟨B1, B2, s1, s2⟩ := slB L (by omega) F (by omega) z (by omega)
    obtain ⟨A1, A2⟩ := slA z (show F + L ≤ 24 by omega) hpt hs
    obtain ⟨A, eA⟩ : ∃ A, A = (L : Int) * fb_si (cX F pt) L - fb_si (cS F) L * fb_si pt L := ⟨_, rfl⟩
    obtain ⟨B, eB⟩ := Int.eq_ofNat_of_zero_le (Int.le_of_lt B1)
    rw [eB] at B1 B2
    rw [← eA] at A1 A2
    have hcl : ∀ o, fX1_nearestFloat (iI A) (iI (B : Int)) = some o → fX6_slope M = some (o, M1) := by
      intro o ho
      unfold fX6_slope fX0_length fX0_slopeBits
      rw [e1, zb1_eq, zb1_eq, n1, zj_eq, li_2, fle_p (by omega) (by omega) (by omega), zn_eq, f3, li_0, c1, zb1_eq, zu4_eq, zn_eq, zn_eq, m6, iI_mul, iI_mul, iI_mul, iI_mul, iI_sub, iI_sub, ← eA, eB, ho, zb1_eq, zb1_eq]
    have hrf : ∀ r, (if iI A = iI 0 then (some (iI 0, M2, F0)) else (zb2 (fX7_nearest (if iI 0 ≤ iI A then iI A else (-iI A)) (iI (B : Int)) (24 : Int32) M2 F0) (fun (M31 : zMem) (F32 : Int64) => zb1 (fX7_bits (24 : Int32) (127 : Int32) M31 F32) (fun (r34 : Int64) => zn ((r34).toInt32) (fun (x35 : Int32) => some (if iI 0 ≤ iI A then x35 else (x35 ||| (-2147483648 : Int32)), M31, F32)))))) = r → fX7_slope M1 F0 = r := by
      intro r hr
      unfold fX7_slope
      rw [e2, zb1_eq, n2, li_2, fle_p (by omega) (by omega) (by omega), zn_eq, li_0, c2, zb1_eq, zu4_eq, c3, zb1_eq, zn_eq, zn_eq, iI_mul, iI_mul, iI_mul, iI_mul, iI_sub, iI_sub, ← eA, eB]
      exact hr
    rcases Classical.em (A = 0) with zA | zA
    · subst zA
      have hc := c_float (A := 0) (B := B) (by omega) (by omega) (by omega) (near_0 _ _ _)
      exact ⟨_, M1, M2, F0, hcl _ hc, hrf _ (by rw [if_pos rfl]; rfl), hR2⟩
    · have hp24 : 2 ^ (23 + 1) = 16777216 := by decide
      have hp23 : 2 ^ 23 = 8388608 := by decide
      obtain ⟨a, ea⟩ : ∃ a, a = A.natAbs := ⟨_, rfl⟩
      obtain ⟨M3, F3, m, e3, g1, g2, g3, g4, g5, g6⟩ := r_nearest (M := M2) (F := F0) (a := a) (b := B) (N := 23) (by omega) (by omega) (by omega) (by omega) (by omega) (by rw [hp24]; omega) (by rw [hp24]; omega)
      have hb := r_bits (bias := 127) (by omega) g2 (by omega) g6
      have hcn := c_nearest (a := a) (b := B) (N := 23) (bias := 127) (by omega) (by omega) (by omega) (by omega) (by omega) (by omega) (by omega) (by omega) g1 (by rw [hp23]; omega)
      rw [ea] at hcn
      have hc := c_float (by omega) (by omega) (by omega) hcn
      refine ⟨_, M1, M3, F3, hcl _ hc, hrf _ ?_, Rl_ag hR2 (Ag_25 g3)⟩
      have hA : (if iI 0 ≤ iI A then iI A else (-iI A)) = iI (a : Int) := by
        rcases Int.lt_or_le A 0 with g | g
        · rw [fle_n (by omega) (by omega) (by omega), iI_neg]; congr 1; omega
        · rw [fle_p (by omega) (by omega) (by omega)]; congr 1; omega
      rw [feq_n (by omega) (by omega) (by omega), hA, show (24 : Int32) = iI ((23 + 1 : Nat) : Int) from rfl, e3, zb2_eq, show (127 : Int32) = iI ((127 : Nat) : Int) from rfl, hb, zb1_eq, zn_eq, ea]
      rcases Int.lt_or_le A 0 with g | g
      · rw [fle_n (by omega) (by omega) (by omega), if_neg (by omega)]
      · rw [fle_p (by omega) (by omega) (by omega), if_pos g]
