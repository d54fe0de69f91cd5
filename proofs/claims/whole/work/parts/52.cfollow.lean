/-! the class's chain -/
def pth (P : Nat → Nat → Bool) (w F R : Nat) : Nat → Int
  | 0 => (R : Int)
  | i + 1 => lo P w (F + i + 1) (pth P w F R i)
theorem pth_ok {P : Nat → Nat → Bool} {w L F R : Nat} (hP : ∀ k r, P k r = true → k < w ∧ r < 32) (h : pk P w 0 32 L F R) (hL : 0 < L) : ∀ i, i < L → 0 ≤ pth P w F R i ∧ pth P w F R i < 32 ∧ rc P w (F + i) (pth P w F R i).toNat = L - i
  | 0, _ => by
    obtain ⟨h1, h2, h3, h4⟩ := h.2 hL
    show 0 ≤ (R : Int) ∧ (R : Int) < 32 ∧ rc P w F R = L - 0
    exact ⟨by omega, by omega, by omega⟩
  | i + 1, hi => by
    obtain ⟨a1, a2, a3⟩ := pth_ok hP h hL i (by omega)
    obtain ⟨r, er⟩ : ∃ r : Nat, pth P w F R i = (r : Int) := ⟨(pth P w F R i).toNat, by omega⟩
    rw [er] at a1 a2 a3
    rw [show ((r : Int)).toNat = r from rfl] at a3
    have hk : F + i < w := by
      rcases (show F + i < w ∨ w ≤ F + i by omega) with g | g
      · exact g
      · rw [rc_out g] at a3; omega
    rw [rc_in r hk] at a3
    have hm : mx3 (rc P w (F + i + 1)) r = L - (i + 1) := by
      by_cases q : ft P (F + i) r = true
      · rw [if_pos q] at a3; omega
      · rw [if_neg q] at a3; omega
    have hl := lo_mx hP (F + i + 1) r (by omega)
    rw [hm] at hl
    show 0 ≤ lo P w (F + i + 1) (pth P w F R i) ∧ lo P w (F + i + 1) (pth P w F R i) < 32 ∧ rc P w (F + i + 1) (lo P w (F + i + 1) (pth P w F R i)).toNat = L - (i + 1)
    rw [er]
    unfold rcI at hl
    by_cases q : 0 ≤ lo P w (F + i + 1) (r : Int) ∧ lo P w (F + i + 1) (r : Int) < 32
    · rw [if_pos q] at hl
      exact ⟨q.1, q.2, hl⟩
    · rw [if_neg q] at hl; omega
theorem pk_w {P : Nat → Nat → Bool} {w L F R : Nat} (h : pk P w 0 32 L F R) (hL : 0 < L) : F + L ≤ w := by
  obtain ⟨h1, h2, h3, h4⟩ := h.2 hL
  have := rc_le P w F R
  omega
def cBl (M : zMem) (L F : Nat) (pt : Nat → Int) : Prop := M 32 4 = iI L ∧ M 32 6 = iI (fb_si pt L) ∧ (0 < L → M 32 3 = iI F ∧ ∀ i, i < L → M 58 (F + i) = iI (pt i))
def cBo (M M' : zMem) : Prop := ∀ c j, c < 32 ∨ 58 < c → M' c j = M c j
theorem cBo_ag {M M' : zMem} (h : cBo M M') : Ag M M' := fun c k hk => h c k (by
  rcases (show (c < 32 ∨ 58 < c) ∨ (32 ≤ c ∧ c ≤ 58) by omega) with q | q
  · exact q
  · unfold relv at hk
    simp only [Bool.or_eq_true, Bool.and_eq_true, beq_iff_eq, decide_eq_true_eq] at hk
    omega)
theorem c_follow {M : zMem} {P : Nat → Nat → Bool} {w L F R : Nat} (hw : w ≤ 24) (hP : ∀ k r, P k r = true → k < w ∧ r < 32) (hM : cRc P w M 0) (hp : pk P w 0 32 L F R) (m4 : M 32 4 = iI L) (mF : 0 < L → M 32 3 = iI F ∧ M 32 5 = iI R) : ∃ M', fX0_follow M = some M' ∧ cBl M' L F (pth P w F R) ∧ cBo M M' := by
  rcases Nat.eq_zero_or_pos L with z | z
  · subst z
    refine ⟨zwr M 32 6 (iI 0), ?_, ⟨?_, ?_, fun h => absurd h (by omega)⟩, fun c j h => zwr_o (by omega)⟩
    · have hx := zlp_end (body := zu3 fX0_follow_L15) (a := (M 32 3, M 32 5, zwr M 32 6 (iI 0))) (b := (M 32 3, M 32 5, zwr M 32 6 (iI 0))) (n := 999999) (by
        show fX0_follow_L15 (M 32 3) (M 32 5) (zwr M 32 6 (iI 0)) = _
        unfold fX0_follow_L15
        rw [zwr_k (by decide), zwr_k (by decide), m4, show iI ((0 : Nat) : Int) = 0 from rfl, Int32.add_zero, if_pos (Int32.le_refl _)])
      unfold fX0_follow
      rw [zn_eq, zn_eq, zn_eq, li_0, zwr_k (by decide), zwr_k (by decide)]
      show zb1 (zlp (zu3 fX0_follow_L15) (999999 + 1) _) _ = _
      rw [hx, zb1_eq]
    · rw [zwr_k (by decide)]; exact m4
    · rw [zwr_s]; rfl
  · obtain ⟨f3, f5⟩ := mF z
    have hFL := pk_w hp z
    have hpt := pth_ok hP hp z
    obtain ⟨b, hb, x, y, M', rfl, h1, h2, h3⟩ : ∃ b, zlp (zu3 fX0_follow_L15) zfu (iI F, iI R, zwr M 32 6 (iI 0)) = some b ∧ ∃ x y M', b = (x, y, M') ∧ M' 32 6 = iI (fb_si (pth P w F R) L) ∧ (∀ i, i < L → M' 58 (F + i) = iI (pth P w F R i)) ∧ ∀ c j, (c ≠ 32 ∨ j ≠ 6) → c ≠ 58 → M' c j = M c j := by
      refine zlp_inv (I := fun i p => p.1 = iI ((F + i : Nat) : Int) ∧ p.2.1 = iI (pth P w F R i) ∧ p.2.2 32 6 = iI (fb_si (pth P w F R) i) ∧ (∀ j, j < i → p.2.2 58 (F + j) = iI (pth P w F R j)) ∧ ∀ c j, (c ≠ 32 ∨ j ≠ 6) → c ≠ 58 → p.2.2 c j = M c j) _ L (by omega) ⟨rfl, rfl, by dsimp only; rw [zwr_s]; rfl, fun j h => absurd h (by omega), fun c j a1 a2 => ?_⟩ ?_ ?_
      · dsimp only
        rcases Classical.em (c = 32) with e | e
        · subst e; rw [zwr_k (by omega)]
        · rw [zwr_o e]
      · rintro i ⟨x, y, M2⟩ hi ⟨e1, e2, a1, a2, a3⟩
        dsimp only at e1 e2 a1 a2 a3
        obtain ⟨b1, b2, b3⟩ := hpt i hi
        obtain ⟨M3, eM3⟩ : ∃ M3, M3 = zwr (zwr M2 58 (F + i) (iI (pth P w F R i))) 32 6 (iI (fb_si (pth P w F R) i + pth P w F R i)) := ⟨_, rfl⟩
        have o3 : ∀ c j, (c ≠ 32 ∨ j ≠ 6) → c ≠ 58 → M3 c j = M c j := by
          intro c j c1 c2
          rw [eM3]
          rcases Classical.em (c = 32) with e | e
          · subst e; rw [zwr_k (by omega), zwr_o (by decide)]; exact a3 _ _ c1 c2
          · rw [zwr_o e, zwr_o c2]; exact a3 _ _ c1 c2
        have hM3 : cRc P w M3 0 := ⟨by rw [o3 _ _ (by decide) (by decide)]; exact hM.1, fun k g1 g2 r g3 => by rw [o3 _ _ (by omega) (by omega)]; exact hM.2 k g1 g2 r g3⟩
        have hlow := c_lowest (k := F + i + 1) (r := pth P w F R i) hw hM3 (by omega) (by omega) (by omega) (by omega)
        refine Or.inl ⟨(iI ((F + (i + 1) : Nat) : Int), iI (pth P w F R (i + 1)), M3), ?_, rfl, rfl, ?_, ?_, o3⟩
        · show fX0_follow_L15 x y M2 = _
          unfold fX0_follow_L15
          rw [e1, e2, a3 32 3 (by decide) (by decide), a3 32 4 (by decide) (by decide), f3, m4, iI_add, fle_n (by omega) (by omega) (by omega), li_24, fle_n (by omega) (by omega) (by omega), zc_in (by omega) (by omega) (by omega), zn_eq, iI_natN (by omega), zn_eq, zwr_o (by decide), a1, iI_add, ← eM3, li_1, iI_add, show ((F + i : Nat) : Int) + 1 = ((F + i + 1 : Nat) : Int) by omega, hlow, zb1_eq]
          rfl
        · dsimp only; rw [eM3, zwr_s, fb_si_succ]
        · intro j hj
          dsimp only
          rw [eM3, zwr_o (by decide)]
          rcases (show j < i ∨ j = i by omega) with g | g
          · rw [zwr_k (by omega)]; exact a2 j g
          · rw [g, zwr_s]
      · rintro ⟨x, y, M2⟩ ⟨e1, e2, a1, a2, a3⟩
        dsimp only at e1 e2 a1 a2 a3
        refine ⟨(x, y, M2), ?_, x, y, M2, rfl, a1, a2, a3⟩
        show fX0_follow_L15 x y M2 = _
        unfold fX0_follow_L15
        rw [e1, a3 32 3 (by decide) (by decide), a3 32 4 (by decide) (by decide), f3, m4, iI_add, fle_p (by omega) (by omega) (by omega)]
    refine ⟨M', ?_, ⟨by rw [h3 _ _ (by decide) (by decide)]; exact m4, h1, fun _ => ⟨by rw [h3 _ _ (by decide) (by decide)]; exact f3, h2⟩⟩, fun c j h => h3 c j (by omega) (by omega)⟩
    unfold fX0_follow
    rw [zn_eq, zn_eq, zn_eq, li_0, zwr_k (by decide), zwr_k (by decide), f3, f5, hb, zb1_eq]
theorem c_base {M : zMem} {w : Nat} {P : Nat → Nat → Bool} (hP : cPg M w P) : ∃ M' L F R, fX0_find M = some M' ∧ pk P w 0 32 L F R ∧ L ≤ 24 ∧ cBl M' L F (pth P w F R) ∧ cBo M M' := by
  have hw := hP.2.1
  obtain ⟨x, M1, e1, t1, ⟨L, F, R, p, hL, m4, mF⟩, o1⟩ := c_measures hP
  obtain ⟨M2, e2, t2, o2⟩ := c_follow hw hP.2.2.2.2 t1 p m4 mF
  refine ⟨M2, L, F, R, ?_, p, hL, t2, fun c j h => (o2 c j h).trans (o1 c j (by omega))⟩
  unfold fX0_find fX4_width zmmin
  rw [zb1_eq, hP.2.2.1, zn_eq, li_24, flt_n (by omega) (by omega) (by omega), zn_eq, zn_eq, zwr_k (by decide), zwr_s, li_0, li_1, iI_sub, e1, zb1_eq]
  show zb1 (fX0_follow M1) _ = _
  rw [e2, zb1_eq]
