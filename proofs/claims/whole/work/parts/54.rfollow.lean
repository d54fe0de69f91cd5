/-! the reference's chain -/
def rpk (P : Nat → Nat → Bool) (w x L F : Nat) : Prop := (∀ y, y < x → rc P w (y / 32) (y % 32) ≤ L) ∧ (0 < L → ∃ y0, y0 < x ∧ F = y0 / 32 ∧ rc P w (y0 / 32) (y0 % 32) = L ∧ ∀ y, y < y0 → rc P w (y / 32) (y % 32) < L)
theorem rpk_eq {P : Nat → Nat → Bool} {w L F L' F' R' : Nat} (h : rpk P w (32 * w) L F) (h' : pk P w 0 32 L' F' R') : L = L' ∧ (0 < L → F = F') := by
  have hall' : ∀ k r, k < w → r < 32 → rc P w k r ≤ L' ∧ (0 < L' → (k < F' ∨ (k = F' ∧ R' < r)) → rc P w k r < L') := fun k r hk hr => h'.1 k r hk hr (by omega)
  have hall : ∀ k r, k < w → r < 32 → rc P w k r ≤ L := by
    intro k r hk hr
    have := h.1 (32 * k + r) (by omega)
    rwa [show (32 * k + r) / 32 = k by omega, show (32 * k + r) % 32 = r by omega] at this
  have e : L = L' := by
    have g1 : L' ≤ L := by
      rcases Nat.eq_zero_or_pos L' with z | z
      · omega
      · obtain ⟨a1, a2, a3, a4⟩ := h'.2 z
        have := hall F' R' a1 a2; omega
    have g2 : L ≤ L' := by
      rcases Nat.eq_zero_or_pos L with z | z
      · omega
      · obtain ⟨y0, y1, y2, y3, y4⟩ := h.2 z
        have := (hall' (y0 / 32) (y0 % 32) (by omega) (by omega)).1; omega
    omega
  refine ⟨e, fun z => ?_⟩
  obtain ⟨y0, y1, y2, y3, y4⟩ := h.2 z
  obtain ⟨a1, a2, a3, a4⟩ := h'.2 (by omega)
  rcases (show F < F' ∨ F = F' ∨ F' < F by omega) with g | g | g
  · have := (hall' (y0 / 32) (y0 % 32) (by omega) (by omega)).2 (by omega) (Or.inl (by omega)); omega
  · exact g
  · have := y4 (32 * F' + R') (by omega)
    rw [show (32 * F' + R') / 32 = F' by omega, show (32 * F' + R') % 32 = R' by omega] at this
    omega
theorem r_peak {M : zMem} {P : Nat → Nat → Bool} {w : Nat} (hP : rPg M w P) (hM : rLd P w M 0) : ∃ x M' L F, zlp (zu2 fX7_findBaseline_L11) zfu (iI 0, zwr M 60 21 (iI 0)) = some (x, M') ∧ rpk P w (32 * w) L F ∧ M' 60 21 = iI L ∧ (0 < L → M' 60 20 = iI F) ∧ rLo M M' ∧ rLd P w M' 0 := by
  have hw := hP.2.1
  obtain ⟨b, hb, y, M', rfl, L, F, h1, h2, h3, h4⟩ : ∃ b, zlp (zu2 fX7_findBaseline_L11) zfu (iI 0, zwr M 60 21 (iI 0)) = some b ∧ ∃ x M', b = (x, M') ∧ ∃ L F, rpk P w (32 * w) L F ∧ M' 60 21 = iI L ∧ (0 < L → M' 60 20 = iI F) ∧ ∀ c j, (c ≠ 60 ∨ (j ≠ 20 ∧ j ≠ 21)) → M' c j = M c j := by
    refine zlp_inv (I := fun x p => p.1 = iI (x : Int) ∧ ∃ L F, rpk P w x L F ∧ p.2 60 21 = iI L ∧ (0 < L → p.2 60 20 = iI F) ∧ ∀ c j, (c ≠ 60 ∨ (j ≠ 20 ∧ j ≠ 21)) → p.2 c j = M c j) _ (32 * w) (by omega) ⟨rfl, 0, 0, ⟨fun y h => absurd h (by omega), fun h => absurd h (by omega)⟩, by dsimp only; rw [zwr_s]; rfl, fun h => absurd h (by omega), fun c j h => ?_⟩ ?_ ?_
    · dsimp only
      rcases Classical.em (c = 60) with e | e
      · subst e; rw [zwr_k (by omega)]
      · rw [zwr_o e]
    · rintro x ⟨y, M2⟩ hx ⟨e1, L, F, p, m1, m2, o⟩
      dsimp only at e1 m1 m2 o
      have hv : M2 74 x = iI (rc P w (x / 32) (x % 32)) := by
        rw [o _ _ (by omega)]
        have := hM (x / 32) (by omega) (by omega) (x % 32) (by omega)
        rwa [show 32 * (x / 32) + x % 32 = x by omega] at this
      have hl := rc_le P w (x / 32) (x % 32)
      have hw1 : M2 60 1 = iI w := by rw [o _ _ (by decide)]; exact hP.2.2.1
      have hL : L ≤ 24 := by
        rcases Nat.eq_zero_or_pos L with z | z
        · omega
        · obtain ⟨y0, y1, y2, y3, y4⟩ := p.2 z
          have := rc_le P w (y0 / 32) (y0 % 32); omega
      by_cases q : rc P w (x / 32) (x % 32) ≤ L
      · refine Or.inl ⟨(iI ((x + 1 : Nat) : Int), M2), ?_, rfl, L, F, ⟨?_, ?_⟩, m1, m2, o⟩
        · show fX7_findBaseline_L11 y M2 = _
          unfold fX7_findBaseline_L11
          rw [e1, hw1, li_32, iI_mul, fle_n (by omega) (by omega) (by omega), zc_in (by omega) (by omega) (by omega), zj_eq, iI_natN (by omega), hv, m1, fle_p (by omega) (by omega) (by omega), li_1, iI_add]; rfl
        · intro y hy
          rcases (show y < x ∨ y = x by omega) with g | g
          · exact p.1 y g
          · rw [g]; exact q
        · intro z
          obtain ⟨y0, y1, y2⟩ := p.2 z
          exact ⟨y0, by omega, y2⟩
      · refine Or.inl ⟨(iI ((x + 1 : Nat) : Int), zwr (zwr M2 60 21 (iI (rc P w (x / 32) (x % 32)))) 60 20 (iI ((x / 32 : Nat) : Int))), ?_, rfl, rc P w (x / 32) (x % 32), x / 32, ⟨?_, ?_⟩, ?_, ?_, ?_⟩
        · show fX7_findBaseline_L11 y M2 = _
          unfold fX7_findBaseline_L11
          rw [e1, hw1, li_32, iI_mul, fle_n (by omega) (by omega) (by omega), zc_in (by omega) (by omega) (by omega), zj_eq, iI_natN (by omega), hv, m1, fle_n (by omega) (by omega) (by omega), zc_in (by omega) (by omega) (by omega), zn_eq, zn_eq, show (32 : Int) = ((32 : Nat) : Int) from rfl, iI_div (by omega) (by omega) (by omega), li_1, iI_add]; rfl
        · intro y hy
          rcases (show y < x ∨ y = x by omega) with g | g
          · have := p.1 y g; omega
          · rw [g]; exact Nat.le_refl _
        · intro z
          exact ⟨x, by omega, rfl, rfl, fun y hy => by have := p.1 y hy; omega⟩
        · dsimp only; rw [zwr_k (by decide), zwr_s]
        · intro z; dsimp only; rw [zwr_s]
        · intro c j h
          dsimp only
          rcases Classical.em (c = 60) with e | e
          · subst e; rw [zwr_k (by omega), zwr_k (by omega)]; exact o _ _ h
          · rw [zwr_o e, zwr_o e]; exact o _ _ h
    · rintro ⟨y, M2⟩ ⟨e1, L, F, p, m1, m2, o⟩
      dsimp only at e1 m1 m2 o
      refine ⟨(y, M2), ?_, y, M2, rfl, L, F, p, m1, m2, o⟩
      show fX7_findBaseline_L11 y M2 = _
      unfold fX7_findBaseline_L11
      rw [e1, o 60 1 (by decide), hP.2.2.1, li_32, iI_mul, fle_p (by omega) (by omega) (by omega)]
  exact ⟨y, M', L, F, hb, h1, h2, h3, fun c j a _ _ => h4 c j a, fun k g1 g2 r g3 => by rw [h4 _ _ (by omega)]; exact hM k g1 g2 r g3⟩
theorem r_lowest {M : zMem} {P : Nat → Nat → Bool} {w k t : Nat} {a b z0 : Int} (hP : rPg M w P) (hM : rLd P w M 0) (hk : k ≤ 100) (ha : -50 ≤ a) (hb : b ≤ 50) (h1 : a ≤ z0) (h2 : z0 ≤ b) (h3 : rcI P w k z0 = t) (h4 : ∀ z, z0 < z → z ≤ b → rcI P w k z ≠ t) : fX7_lowest (iI k) (iI a) (iI b) (iI t) M = some (iI z0) := by
  have hw := hP.2.1
  have ht : t ≤ 24 := by rw [← h3]; exact rcI_le P hw k z0
  have hl : zlp (zu1 (fX7_lowest_L3 (iI k) (iI a) (iI t) M)) zfu (iI b) = some (.inr (iI z0)) := by
    refine zlp_seq (S := fun j => iI (b - (j : Int))) _ (b - z0).toNat (by omega) (by show _ = iI (b - ((0 : Nat) : Int)); congr 1; omega) (fun j hj => ?_) ?_
    · show fX7_lowest_L3 (iI k) (iI a) (iI t) M (iI (b - (j : Int))) = _
      have hr := rcI_le P hw k (b - (j : Int))
      have hne := h4 (b - (j : Int)) (by omega) (by omega)
      unfold fX7_lowest_L3
      rw [flt_n (by omega) (by omega) (by omega), r_leadsAt hP hM (by omega) hk (by omega) (by omega), zb1_eq, feq_n (by omega) (by omega) (by omega), show (-1 : Int32) = iI (-1) from rfl, iI_add, show b - ((j + 1 : Nat) : Int) = b - (j : Int) + -1 by omega]
    · show fX7_lowest_L3 (iI k) (iI a) (iI t) M (iI (b - ((b - z0).toNat : Int))) = _
      unfold fX7_lowest_L3
      rw [show b - ((b - z0).toNat : Int) = z0 by omega, flt_n (by omega) (by omega) (by omega), r_leadsAt hP hM (by omega) hk (by omega) (by omega), zb1_eq, h3, if_pos rfl]
  unfold fX7_lowest
  rw [hl, zbr_r]
def rBl (M : zMem) (L F : Nat) (pt : Nat → Int) : Prop := M 60 21 = iI L ∧ (0 < L → M 60 20 = iI F ∧ ∀ i, i < L → M 75 (F + i) = iI (pt i))
theorem r_base {M : zMem} {P : Nat → Nat → Bool} {w L F R : Nat} (hP : rPg M w P) (hp : pk P w 0 32 L F R) : ∃ M', fX7_findBaseline M = some M' ∧ rBl M' L F (pth P w F R) ∧ rLo M M' := by
  have hw := hP.2.1
  obtain ⟨M1, e1, t1, o1⟩ := r_leads hP
  have hP1 := rPg_lo hP o1
  obtain ⟨x2, M2, L', F', e2, p2, m1, m2, o2, t2⟩ := r_peak hP1 t1
  have hP2 := rPg_lo hP1 o2
  obtain ⟨eL, eF⟩ := rpk_eq p2 hp
  subst eL
  have m2' : 0 < L' → M2 60 20 = iI F := fun h => by rw [m2 h, eF h]
  have hL : L' ≤ 24 := by
    rcases Nat.eq_zero_or_pos L' with z | z
    · omega
    · have := pk_w hp z; omega
  obtain ⟨b, hb, x, y, z, M', rfl, h1, h2⟩ : ∃ b, zlp (zu4 fX7_findBaseline_L66) zfu (iI 0, iI 31, iI 0, M2) = some b ∧ ∃ x y z M', b = (x, y, z, M') ∧ (0 < L' → ∀ i, i < L' → M' 75 (F + i) = iI (pth P w F R i)) ∧ ∀ c j, c ≠ 75 → M' c j = M2 c j := by
    refine zlp_inv (I := fun i p => p.1 = iI (i : Int) ∧ p.2.1 = iI (if i = 0 then 31 else pth P w F R (i - 1) + 1) ∧ p.2.2.1 = iI (if i = 0 then 0 else pth P w F R (i - 1) - 1) ∧ (0 < L' → ∀ j, j < i → p.2.2.2 75 (F + j) = iI (pth P w F R j)) ∧ ∀ c j, c ≠ 75 → p.2.2.2 c j = M2 c j) _ L' (by omega) ⟨rfl, rfl, rfl, fun _ j h => absurd h (by omega), fun _ _ _ => rfl⟩ ?_ ?_
    · rintro i ⟨x, y, z, M3⟩ hi ⟨e1, e2, e3, a1, a2⟩
      dsimp only at e1 e2 e3 a1 a2
      have hz : 0 < L' := by omega
      have hFL := pk_w hp hz
      obtain ⟨q1, q2, q3, q4⟩ := hp.2 hz
      have hpt := pth_ok hP.2.2.2.2 hp hz
      obtain ⟨b1, b2, b3⟩ := hpt i hi
      have hP3 : rPg M3 w P := rPg_ag hP2 (fun c k hk => a2 c k (by intro e; rw [e] at hk; simp [relv] at hk))
      have t3 : rLd P w M3 0 := fun k g1 g2 r g3 => by rw [a2 _ _ (by decide)]; exact t2 k g1 g2 r g3
      have hlow : fX7_lowest (iI ((F + i : Nat) : Int)) z y (iI ((L' - i : Nat) : Int)) M3 = some (iI (pth P w F R i)) := by
        rw [e2, e3]
        have hrci : rcI P w (F + i) (pth P w F R i) = L' - i := by unfold rcI; rw [if_pos ⟨b1, b2⟩]; exact b3
        rcases (show i = 0 ∨ ∃ j, i = j + 1 from by cases i with | zero => exact Or.inl rfl | succ s => exact Or.inr ⟨s, rfl⟩) with rfl | ⟨j, rfl⟩
        · rw [if_pos rfl, if_pos rfl]
          refine r_lowest hP3 t3 (by omega) (by omega) (by omega) (by omega) (by omega) hrci (fun z g1 g2 => ?_)
          have g3 : pth P w F R 0 = (R : Int) := rfl
          have := (hp.1 F z.toNat q1 (by omega) (by omega)).2 hz (Or.inr ⟨rfl, by omega⟩)
          unfold rcI; rw [if_pos (by omega)]
          show rc P w F z.toNat ≠ L' - 0
          omega
        · obtain ⟨c1, c2, c3⟩ := hpt j (by omega)
          rw [if_neg (by omega), if_neg (by omega), show j + 1 - 1 = j by omega]
          have hs := lo_sp P w (F + j + 1) (pth P w F R j)
          have hbd := lo_bd P w (F + j + 1) (pth P w F R j)
          have ep : pth P w F R (j + 1) = lo P w (F + j + 1) (pth P w F R j) := rfl
          refine r_lowest hP3 t3 (by omega) (by omega) (by omega) (by omega) (by omega) hrci (fun z g1 g2 => ?_)
          have h9 := hs.2.2.2 z (by omega) (by omega)
          rw [← ep] at h9
          have h10 : rcI P w (F + j + 1) (pth P w F R (j + 1)) = L' - (j + 1) := hrci
          show rcI P w (F + j + 1) z ≠ _
          omega
      refine Or.inl ⟨(iI ((i + 1 : Nat) : Int), iI (pth P w F R i + 1), iI (pth P w F R i - 1), zwr M3 75 (F + i) (iI (pth P w F R i))), ?_, rfl, ?_, ?_, ?_, ?_⟩
      · show fX7_findBaseline_L66 x y z M3 = _
        unfold fX7_findBaseline_L66
        rw [e1, a2 60 21 (by decide), a2 60 20 (by decide), m1, m2' hz, fle_n (by omega) (by omega) (by omega), iI_add, iI_sub, show (F : Int) + (i : Int) = ((F + i : Nat) : Int) by omega, show (L' : Int) - (i : Int) = ((L' - i : Nat) : Int) by omega, hlow, zb1_eq, zc_in (by omega) (by omega) (by omega), zn_eq, iI_natN (by omega), zn_eq, zn_eq, li_1, iI_sub, iI_add, iI_add]; rfl
      · dsimp only; rw [if_neg (by omega), show i + 1 - 1 = i by omega]
      · dsimp only; rw [if_neg (by omega), show i + 1 - 1 = i by omega]
      · intro _ j hj
        dsimp only
        rcases (show j < i ∨ j = i by omega) with g | g
        · rw [zwr_k (by omega)]; exact a1 hz j g
        · rw [g, zwr_s]
      · intro c j h
        dsimp only
        rw [zwr_o h]; exact a2 c j h
    · rintro ⟨x, y, z, M3⟩ ⟨e1, e2, e3, a1, a2⟩
      dsimp only at e1 e2 e3 a1 a2
      refine ⟨(x, y, z, M3), ?_, x, y, z, M3, rfl, a1, a2⟩
      show fX7_findBaseline_L66 x y z M3 = _
      unfold fX7_findBaseline_L66
      rw [e1, a2 60 21 (by decide), m1, fle_p (by omega) (by omega) (by omega)]
  refine ⟨M', ?_, ⟨by rw [h2 _ _ (by decide)]; exact m1, fun h => ⟨by rw [h2 _ _ (by decide)]; exact m2' h, h1 h⟩⟩, rLo_tr o1 (rLo_tr o2 (fun c j _ _ h => h2 c j h))⟩
  unfold fX7_findBaseline
  rw [e1, zb1_eq, zn_eq, li_0, e2, zb1_eq]
  show zb1 (zlp (zu4 fX7_findBaseline_L66) zfu (iI 0, iI 31, iI 0, M2)) _ = _
  rw [hb, zb1_eq]
