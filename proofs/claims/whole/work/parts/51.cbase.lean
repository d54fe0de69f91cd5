/-! the class's baseline -/
theorem bit_ft {x : Int32} {r : Nat} (hr : r < 32) (b : Bool) (h : bt x r = b) : (if (zush x (iI r) &&& 1) = 1 then (1 : Int32) else 0) = b2 b := by
  cases b with
  | true => rw [if_pos ((bit_ush hr).mpr h)]; rfl
  | false => rw [if_neg (fun g => by rw [(bit_ush hr).mp g] at h; cases h)]; rfl
theorem c_meas1 {M : zMem} {P : Nat → Nat → Bool} {w k r : Nat} {x : Int32} (hw : w ≤ 24) (hP : ∀ k r, P k r = true → k < w ∧ r < 32) (hk : k < w) (hr : r < 32) (hx : ∀ r, r < 32 → bt x r = ft P k r) (hM : cRc P w M (k + 1)) (hc : cPk P w M k r) (hd : ∀ r', r' < r → M (34 + k) r' = iI (rc P w k r')) :
    ∃ M', fX0_measure_L2 (iI k) x (iI r) M = some (.inl (iI ((r + 1 : Nat) : Int), M')) ∧ cRc P w M' (k + 1) ∧ cPk P w M' k (r + 1) ∧ (∀ r', r' < r + 1 → M' (34 + k) r' = iI (rc P w k r')) ∧ ∀ c j, c < 32 ∨ 57 < c → M' c j = M c j := by
  obtain ⟨L, F, R, p, hL, m4, mF⟩ := hc
  have hle := rc_le P w k r
  have hin := rc_in (P := P) (w := w) r hk
  have hbit := bit_ft hr _ (hx r hr)
  obtain ⟨V, eV⟩ : ∃ V, V = rc P w k r := ⟨_, rfl⟩
  obtain ⟨M2, eM2⟩ : ∃ M2, M2 = zwr M (34 + k) r (iI V) := ⟨_, rfl⟩
  have hval : ∀ K : Int32 → Option ((Int32 × zMem) ⊕ (Int32 × zMem)), zj K (fun k14 => if b2 (ft P k r) = 0 then k14 0 else zb1 (fX0_lowestOnward (iI k + 1) (iI r) M) (fun r17 => zb1 (fX0_reachAt (iI k + 1) r17 M) (fun r19 => k14 (1 + r19)))) = K (iI V) := by
    intro K
    rw [zj_eq]
    cases e : ft P k r with
    | false => rw [if_pos (by decide), eV, hin, e, if_neg (by decide)]; rfl
    | true =>
      have hb := lo_bd P w (k + 1) (r : Int)
      rw [if_neg (by decide), li_1, iI_add, show (k : Int) + 1 = ((k + 1 : Nat) : Int) by omega, c_lowest hw hM (by omega) (by omega) (by omega) (by omega), zb1_eq, c_reachAt hw hM (by omega) (by omega) (by omega) (by omega), zb1_eq, iI_add, lo_mx hP (k + 1) r hr, eV, hin, e, if_pos rfl]
      rfl
  have o2 : ∀ c j, c ≠ 34 + k → M2 c j = M c j := fun c j h => by rw [eM2]; exact zwr_o h
  have v2 : M2 (34 + k) r = iI V := by rw [eM2, zwr_s]
  have hM2 : cRc P w M2 (k + 1) := ⟨by rw [o2 _ _ (by omega)]; exact hM.1, fun k' h1 h2 r' h3 => by rw [o2 _ _ (by omega)]; exact hM.2 k' h1 h2 r' h3⟩
  have d2 : ∀ r', r' < r + 1 → M2 (34 + k) r' = iI (rc P w k r') := by
    intro r' h
    rcases (show r' < r ∨ r' = r by omega) with g | g
    · rw [eM2, zwr_k (by omega)]; exact hd r' g
    · rw [g, v2, eV]
  have m24 : M2 32 4 = iI L := by rw [o2 _ _ (by omega)]; exact m4
  by_cases q : ft P k r = true ∧ L ≤ V
  · have hVp : 0 < V := by rw [eV, hin, if_pos q.1]; omega
    refine ⟨zwr (zwr (zwr M2 32 4 (iI V)) 32 3 (iI k)) 32 5 (iI r), ?_, ?_, ⟨V, k, r, ⟨?_, ?_⟩, by omega, ?_, ?_⟩, ?_, ?_⟩
    · unfold fX0_measure_L2
      rw [li_32, fle_n (by omega) (by omega) (by omega), hbit, zn_eq, zc_in (by omega) (by omega) (by omega), hval, zc_in (by omega) (by omega) (by omega), zn_eq, iI_natN (by omega), iI_natN (by omega), ← eM2, zj_eq, q.1, if_neg (by decide), zc_in (by omega) (by omega) (by omega), zc_in (by omega) (by omega) (by omega), v2, m24, flt_n (by omega) (by omega) (by omega), zc_in (by omega) (by omega) (by omega), zc_in (by omega) (by omega) (by omega), zn_eq, zn_eq, zn_eq, li_1, iI_add]; rfl
    · exact ⟨by rw [zwr_k (by decide), zwr_k (by decide), zwr_k (by decide)]; exact hM2.1, fun k' h1 h2 r' h3 => by rw [zwr_o (by omega), zwr_o (by omega), zwr_o (by omega)]; exact hM2.2 k' h1 h2 r' h3⟩
    · intro k' r' h1 h2 h3
      rcases h3 with h3 | ⟨h3, h4⟩
      · have := (p.1 k' r' h1 h2 (Or.inl h3)).1
        exact ⟨by omega, fun _ h => by omega⟩
      · rcases (show r' < r ∨ r' = r by omega) with g | g
        · have := (p.1 k' r' h1 h2 (Or.inr ⟨h3, g⟩)).1
          exact ⟨by omega, fun _ h => by omega⟩
        · rw [h3, g, ← eV]
          exact ⟨by omega, fun _ h => by omega⟩
    · intro _; exact ⟨hk, hr, Nat.le_refl _, eV.symm⟩
    · rw [zwr_k (by decide), zwr_k (by decide), zwr_s]
    · intro _; exact ⟨by rw [zwr_k (by decide), zwr_s], by rw [zwr_s]⟩
    · intro r' h; rw [zwr_o (by omega), zwr_o (by omega), zwr_o (by omega)]; exact d2 r' h
    · intro c j h; rw [zwr_o (by omega), zwr_o (by omega), zwr_o (by omega), o2 _ _ (by omega)]
  · refine ⟨M2, ?_, hM2, ⟨L, F, R, ⟨?_, fun h => ?_⟩, hL, m24, fun h => ?_⟩, d2, fun c j h => o2 _ _ (by omega)⟩
    · unfold fX0_measure_L2
      rw [li_32, fle_n (by omega) (by omega) (by omega), hbit, zn_eq, zc_in (by omega) (by omega) (by omega), hval, zc_in (by omega) (by omega) (by omega), zn_eq, iI_natN (by omega), iI_natN (by omega), ← eM2, zj_eq]
      cases e : ft P k r with
      | false => rw [if_pos (by decide), li_1, iI_add]; rfl
      | true =>
        have : V < L := by rcases (show V < L ∨ L ≤ V by omega) with g | g; exact g; exact absurd ⟨e, g⟩ q
        rw [if_neg (by decide), zc_in (by omega) (by omega) (by omega), zc_in (by omega) (by omega) (by omega), v2, m24, flt_p (by omega) (by omega) (by omega), li_1, iI_add]; rfl
    · intro k' r' h1 h2 h3
      rcases h3 with h3 | ⟨h3, h4⟩
      · exact p.1 k' r' h1 h2 (Or.inl h3)
      · rcases (show r' < r ∨ r' = r by omega) with g | g
        · exact p.1 k' r' h1 h2 (Or.inr ⟨h3, g⟩)
        · rw [h3, g, ← eV]
          cases e : ft P k r with
          | false =>
            have : V = 0 := by rw [eV, hin, e]; rfl
            exact ⟨by omega, fun h _ => by omega⟩
          | true =>
            have : V < L := by rcases (show V < L ∨ L ≤ V by omega) with g | g; exact g; exact absurd ⟨e, g⟩ q
            exact ⟨by omega, fun h _ => by omega⟩
    · exact p.2 h
    · rw [o2 _ _ (by omega), o2 _ _ (by omega)]; exact mF h
theorem c_measure {M : zMem} {P : Nat → Nat → Bool} {w k : Nat} {x : Int32} (hw : w ≤ 24) (hP : ∀ k r, P k r = true → k < w ∧ r < 32) (hk : k < w) (hx : ∀ r, r < 32 → bt x r = ft P k r) (hM : cRc P w M (k + 1)) (hc : cPk P w M k 0) :
    ∃ M', fX0_measure (iI k) x M = some M' ∧ cRc P w M' k ∧ cPk P w M' k 32 ∧ ∀ c j, c < 32 ∨ 57 < c → M' c j = M c j := by
  obtain ⟨b, hb, y, M', rfl, h1, h2, h3, h4⟩ : ∃ b, zlp (zu2 (fX0_measure_L2 (iI k) x)) zfu (iI 0, M) = some b ∧ ∃ y M', b = (y, M') ∧ cRc P w M' (k + 1) ∧ cPk P w M' k 32 ∧ (∀ r', r' < 32 → M' (34 + k) r' = iI (rc P w k r')) ∧ ∀ c j, c < 32 ∨ 57 < c → M' c j = M c j := by
    refine zlp_inv (I := fun r p => p.1 = iI (r : Int) ∧ cRc P w p.2 (k + 1) ∧ cPk P w p.2 k r ∧ (∀ r', r' < r → p.2 (34 + k) r' = iI (rc P w k r')) ∧ ∀ c j, c < 32 ∨ 57 < c → p.2 c j = M c j) _ 32 (by omega) ⟨rfl, hM, hc, fun r' h => absurd h (by omega), fun _ _ _ => rfl⟩ ?_ ?_
    · rintro r ⟨y, M2⟩ hr ⟨e1, a1, a2, a3, a4⟩
      dsimp only at e1 a1 a2 a3 a4
      obtain ⟨M3, e3, b1, b2, b3, b4⟩ := c_meas1 hw hP hk hr hx a1 a2 a3
      exact Or.inl ⟨_, by rw [e1]; exact e3, rfl, b1, b2, b3, fun c j h => (b4 c j h).trans (a4 c j h)⟩
    · rintro ⟨y, M2⟩ ⟨e1, a1, a2, a3, a4⟩
      dsimp only at e1 a1 a2 a3 a4
      refine ⟨(y, M2), ?_, y, M2, rfl, a1, a2, a3, a4⟩
      show fX0_measure_L2 (iI k) x y M2 = _
      unfold fX0_measure_L2
      rw [e1, li_32, fle_p (by omega) (by omega) (by omega)]
  refine ⟨M', ?_, ⟨h1.1, fun k' g1 g2 r hr => ?_⟩, h2, h4⟩
  · unfold fX0_measure
    rw [li_0, hb, zb1_eq]
  · rcases (show k' = k ∨ k + 1 ≤ k' by omega) with g | g
    · rw [g]; exact h3 r hr
    · exact h1.2 k' g g2 r hr
theorem pk_next {P : Nat → Nat → Bool} {w k L F R : Nat} (h : pk P w (k + 1) 32 L F R) : pk P w k 0 L F R :=
  ⟨fun k' r' h1 h2 h3 => h.1 k' r' h1 h2 (by omega), fun h0 => by have := h.2 h0; omega⟩
theorem c_measures {M : zMem} {w : Nat} {P : Nat → Nat → Bool} (hP : cPg M w P) : ∃ x M', zlp (zu2 fX0_find_L25) zfu (iI ((w : Int) - 1), zwr (zwr M 32 2 (iI w)) 32 4 (iI 0)) = some (x, M') ∧ cRc P w M' 0 ∧ cPk P w M' 0 32 ∧ ∀ c j, c < 32 ∨ 57 < c → M' c j = M c j := by
  have hw := hP.2.1
  have hw1 := hP.1
  obtain ⟨b, hb, y, M', rfl, h1, h2, h3⟩ : ∃ b, zlp (zu2 fX0_find_L25) zfu (iI ((w : Int) - 1), zwr (zwr M 32 2 (iI w)) 32 4 (iI 0)) = some b ∧ ∃ y M', b = (y, M') ∧ cRc P w M' 0 ∧ cPk P w M' 0 32 ∧ ∀ c j, c < 32 ∨ 57 < c → M' c j = M c j := by
    refine zlp_inv (I := fun d p => p.1 = iI ((w : Int) - 1 - (d : Int)) ∧ cRc P w p.2 (w - d) ∧ cPk P w p.2 (w - d) 32 ∧ ∀ c j, c < 32 ∨ 57 < c → p.2 c j = M c j) _ w (by omega) ⟨by dsimp only; congr 1; omega, ⟨by dsimp only; rw [zwr_k (by decide), zwr_s], fun k a1 a2 => absurd a2 (by omega)⟩, ⟨0, 0, 0, ⟨fun k' r' a1 a2 a3 => absurd a1 (by omega), fun h => absurd h (by omega)⟩, by omega, by dsimp only; rw [zwr_s]; rfl, fun h => absurd h (by omega)⟩, fun c j h => by dsimp only; rw [zwr_o (by omega), zwr_o (by omega)]⟩ ?_ ?_
    · rintro d ⟨y, M2⟩ hd ⟨e1, a1, a2, a3⟩
      dsimp only at e1 a1 a2 a3
      obtain ⟨k, hk⟩ : ∃ k, w - d = k + 1 := ⟨w - d - 1, by omega⟩
      rw [hk] at a1 a2
      have hP2 : cPg M2 w P := ⟨hP.1, hP.2.1, by rw [a3 _ _ (by omega)]; exact hP.2.2.1, fun k hk r hr => by rw [a3 _ _ (by omega)]; exact hP.2.2.2.1 k hk r hr, hP.2.2.2.2⟩
      obtain ⟨x, ex, hx⟩ := c_feet hP2 (show k < w by omega)
      have a2' : cPk P w M2 k 0 := by
        obtain ⟨L, F, R, p, rest⟩ := a2
        exact ⟨L, F, R, pk_next p, rest⟩
      obtain ⟨M3, e3, b1, b2, b3⟩ := c_measure hw hP.2.2.2.2 (show k < w by omega) hx a1 a2'
      refine Or.inl ⟨(iI ((w : Int) - 1 - ((d + 1 : Nat) : Int)), M3), ?_, rfl, by rw [show w - (d + 1) = k by omega]; exact b1, by rw [show w - (d + 1) = k by omega]; exact b2, fun c j h => (b3 c j h).trans (a3 c j h)⟩
      show fX0_find_L25 y M2 = _
      unfold fX0_find_L25
      rw [e1, li_0, flt_n (by omega) (by omega) (by omega), show (w : Int) - 1 - (d : Int) = (k : Int) by omega, ex, zb1_eq, e3, zb1_eq, show (-1 : Int32) = iI (-1) from rfl, iI_add, show (w : Int) - 1 - ((d + 1 : Nat) : Int) = (k : Int) + -1 by omega]
    · rintro ⟨y, M2⟩ ⟨e1, a1, a2, a3⟩
      dsimp only at e1 a1 a2 a3
      rw [show w - w = 0 by omega] at a1 a2
      refine ⟨(y, M2), ?_, y, M2, rfl, a1, a2, a3⟩
      show fX0_find_L25 y M2 = _
      unfold fX0_find_L25
      rw [e1, li_0, flt_p (by omega) (by omega) (by omega)]
  exact ⟨y, M', hb, h1, h2, h3⟩
