/-! the reference's leads -/
def rLd (P : Nat → Nat → Bool) (w : Nat) (M : zMem) (k0 : Nat) : Prop := ∀ k, k0 ≤ k → k < w → ∀ r, r < 32 → M 74 (32 * k + r) = iI (rc P w k r)
def rLo (M M' : zMem) : Prop := ∀ c j, (c ≠ 60 ∨ (j ≠ 20 ∧ j ≠ 21)) → c ≠ 74 → c ≠ 75 → M' c j = M c j
theorem rLo_rf {M : zMem} : rLo M M := fun _ _ _ _ _ => rfl
theorem rLo_tr {M M' M'' : zMem} (h1 : rLo M M') (h2 : rLo M' M'') : rLo M M'' := fun c k a b d => (h2 c k a b d).trans (h1 c k a b d)
theorem rLo_ag {M M' : zMem} (h : rLo M M') : Ag M M' := fun c k hk => h c k (by
  rcases Classical.em (c = 60 ∧ (k = 20 ∨ k = 21)) with ⟨e1, e2⟩ | e
  · rw [e1] at hk; rcases e2 with e2 | e2 <;> (rw [e2] at hk; simp [relv] at hk)
  · omega) (by intro e; rw [e] at hk; simp [relv] at hk) (by intro e; rw [e] at hk; simp [relv] at hk)
theorem r_leadsAt {M : zMem} {P : Nat → Nat → Bool} {w k0 k : Nat} {z : Int} (hP : rPg M w P) (hM : rLd P w M k0) (hk : k0 ≤ k) (hk2 : k ≤ 100) (z1 : -100 ≤ z) (z2 : z ≤ 100) : fX7_leadsAt (iI k) (iI z) M = some (iI (rcI P w k z)) := by
  have hw := hP.2.1
  unfold fX7_leadsAt
  rw [r_isColumn hP (k : Int) (by omega) (by omega), zb1_eq, zj_eq]
  by_cases q : k < w
  · rw [decide_eq_true (show (0 : Int) ≤ (k : Int) by omega), decide_eq_true (show (k : Int) < (w : Int) by omega), if_neg (by decide), r_isRow z (by omega) (by omega), zb1_eq]
    unfold rcI
    by_cases g : 0 ≤ z ∧ z < 32
    · rw [if_pos g, decide_eq_true g.1, decide_eq_true g.2, if_neg (by decide), li_32, iI_mul, iI_add, zc_in (by omega) (by omega) (by omega), iI_nat (by omega) (by omega), show ((32 : Int) * (k : Int) + z).toNat = 32 * k + z.toNat by omega, hM k hk q z.toNat (by omega)]
    · rw [if_neg g, if_pos]
      · rfl
      · rcases (show z < 0 ∨ 32 ≤ z by omega) with s | s
        · rw [decide_eq_false (by omega)]; rfl
        · rw [decide_eq_false (p := z < 32) (by omega), Bool.and_false]; rfl
  · rw [decide_eq_false (p := (k : Int) < (w : Int)) (by omega), Bool.and_false, if_pos (by decide)]
    unfold rcI
    rw [rc_out (by omega), ite_self]; rfl
theorem mx3_I {P : Nat → Nat → Bool} {w : Nat} (hP : ∀ k r, P k r = true → k < w ∧ r < 32) (k r : Nat) (hr : r < 32) : mx3 (rc P w k) r = max (max (rcI P w k ((r : Int) + 1)) (rcI P w k (r : Int))) (rcI P w k ((r : Int) - 1)) := by
  rw [← lo_mx hP k r hr]
  have h := lo_sp P w k (r : Int)
  have hb := lo_bd P w k (r : Int)
  rcases (show lo P w k (r : Int) = (r : Int) + 1 ∨ lo P w k (r : Int) = (r : Int) ∨ lo P w k (r : Int) = (r : Int) - 1 by omega) with e | e | e
  · rw [e] at h ⊢; omega
  · rw [e] at h ⊢; omega
  · rw [e] at h ⊢; omega
theorem rcI_le (P : Nat → Nat → Bool) {w : Nat} (hw : w ≤ 24) (k : Nat) (z : Int) : rcI P w k z ≤ 24 := by
  unfold rcI
  have := rc_le P w k z.toNat
  by_cases g : 0 ≤ z ∧ z < 32
  · rw [if_pos g]; omega
  · rw [if_neg g]; omega
theorem r_max3 {M : zMem} {P : Nat → Nat → Bool} {w k r : Nat} (hP : rPg M w P) (hM : rLd P w M (k + 1)) (hk : k < w) (hr : r < 32) : zlp (zu2 (fX7_findLeads_L26 (iI k) (iI r) M)) zfu (iI ((r : Int) - 1), iI 0) = some (iI ((r : Int) + 2), iI (mx3 (rc P w (k + 1)) r)) := by
  have hw := hP.2.1
  have step : ∀ (x : Int) (y : Nat), -1 ≤ x → x ≤ (r : Int) + 1 → y ≤ 24 → fX7_findLeads_L26 (iI k) (iI r) M (iI x) (iI y) = some (.inl (iI (x + 1), iI ((max y (rcI P w (k + 1) x) : Nat) : Int))) := by
    intro x y x1 x2 y1
    have h1 := rcI_le P hw (k + 1) x
    unfold fX7_findLeads_L26
    rw [li_1, iI_add, flt_n (by omega) (by omega) (by omega), iI_add, show (k : Int) + 1 = ((k + 1 : Nat) : Int) by omega, r_leadsAt hP hM (by omega) (by omega) (by omega) (by omega), zb1_eq, zn_eq, iI_add]
    by_cases q : rcI P w (k + 1) x ≤ y
    · rw [fle_p (by omega) (by omega) (by omega), show max y (rcI P w (k + 1) x) = y by omega]
    · rw [fle_n (by omega) (by omega) (by omega), show max y (rcI P w (k + 1) x) = rcI P w (k + 1) x by omega]
  have a1 := rcI_le P hw (k + 1) ((r : Int) - 1)
  have a2 := rcI_le P hw (k + 1) (r : Int)
  have a3 := rcI_le P hw (k + 1) ((r : Int) + 1)
  have s1 := step ((r : Int) - 1) 0 (by omega) (by omega) (by omega)
  have s2 := step (r : Int) (max 0 (rcI P w (k + 1) ((r : Int) - 1))) (by omega) (by omega) (by omega)
  have s3 := step ((r : Int) + 1) (max (max 0 (rcI P w (k + 1) ((r : Int) - 1))) (rcI P w (k + 1) (r : Int))) (by omega) (by omega) (by omega)
  have hm := mx3_I hP.2.2.2.2 (k + 1) r hr
  have hend : max (max (max 0 (rcI P w (k + 1) ((r : Int) - 1))) (rcI P w (k + 1) (r : Int))) (rcI P w (k + 1) ((r : Int) + 1)) = mx3 (rc P w (k + 1)) r := by rw [hm]; omega
  rw [hend] at s3
  refine zlp_seq (S := fun j => match j with | 0 => (iI ((r : Int) - 1), iI ((0 : Nat) : Int)) | 1 => (iI (r : Int), iI ((max 0 (rcI P w (k + 1) ((r : Int) - 1)) : Nat) : Int)) | 2 => (iI ((r : Int) + 1), iI ((max (max 0 (rcI P w (k + 1) ((r : Int) - 1))) (rcI P w (k + 1) (r : Int)) : Nat) : Int)) | _ => (iI ((r : Int) + 2), iI (mx3 (rc P w (k + 1)) r))) _ 3 (by omega) rfl (fun j hj => ?_) ?_
  · rcases (show j = 0 ∨ j = 1 ∨ j = 2 by omega) with rfl | rfl | rfl
    · show fX7_findLeads_L26 (iI k) (iI r) M (iI ((r : Int) - 1)) (iI ((0 : Nat) : Int)) = _
      rw [s1, show (r : Int) - 1 + 1 = (r : Int) by omega]; rfl
    · exact s2
    · show fX7_findLeads_L26 (iI k) (iI r) M (iI ((r : Int) + 1)) (iI ((max (max 0 (rcI P w (k + 1) ((r : Int) - 1))) (rcI P w (k + 1) (r : Int)) : Nat) : Int)) = some (.inl (iI ((r : Int) + 2), iI (mx3 (rc P w (k + 1)) r)))
      rw [s3, show (r : Int) + 1 + 1 = (r : Int) + 2 by omega]
  · show fX7_findLeads_L26 (iI k) (iI r) M (iI ((r : Int) + 2)) (iI (mx3 (rc P w (k + 1)) r)) = _
    unfold fX7_findLeads_L26
    rw [li_1, iI_add, flt_p (by omega) (by omega) (by omega)]
theorem rPg_lo {M M' : zMem} {w : Nat} {P : Nat → Nat → Bool} (h : rPg M w P) (ho : rLo M M') : rPg M' w P := rPg_ag h (rLo_ag ho)
theorem r_leadCol {M : zMem} {P : Nat → Nat → Bool} {w k : Nat} (hP : rPg M w P) (hM : rLd P w M (k + 1)) (hk : k < w) : ∃ x M', zlp (zu2 (fX7_findLeads_L13 (iI k))) zfu (iI 0, M) = some (x, M') ∧ rLd P w M' k ∧ rLo M M' := by
  have hw := hP.2.1
  obtain ⟨b, hb, y, M', rfl, h1, h2, h3⟩ : ∃ b, zlp (zu2 (fX7_findLeads_L13 (iI k))) zfu (iI 0, M) = some b ∧ ∃ y M', b = (y, M') ∧ rLd P w M' (k + 1) ∧ (∀ r, r < 32 → M' 74 (32 * k + r) = iI (rc P w k r)) ∧ rLo M M' := by
    refine zlp_inv (I := fun r p => p.1 = iI (r : Int) ∧ rLd P w p.2 (k + 1) ∧ (∀ r', r' < r → p.2 74 (32 * k + r') = iI (rc P w k r')) ∧ rLo M p.2) _ 32 (by omega) ⟨rfl, hM, fun r h => absurd h (by omega), rLo_rf⟩ ?_ ?_
    · rintro r ⟨y, M2⟩ hr ⟨e1, a1, a2, a3⟩
      dsimp only at e1 a1 a2 a3
      have hP2 := rPg_lo hP a3
      refine Or.inl ⟨(iI ((r + 1 : Nat) : Int), zwr M2 74 (32 * k + r) (iI (rc P w k r))), ?_, rfl, ?_, ?_, ?_⟩
      · show fX7_findLeads_L13 (iI k) y M2 = _
        unfold fX7_findLeads_L13
        rw [e1, li_32, fle_n (by omega) (by omega) (by omega), zn_eq, li_1, iI_sub, li_0, r_max3 hP2 a1 hk hr, zb1_eq]
        show zb1 (fX7_isFoot (iI k) (iI r) M2) _ = _
        rw [r_isFoot hP2 (by omega) (by omega), zb1_eq, iI_mul, iI_add, zc_in (by omega) (by omega) (by omega), zn_eq, iI_nat (by omega) (by omega), show ((32 : Int) * (k : Int) + (r : Int)).toNat = 32 * k + r by omega, iI_add]
        rw [rc_in r hk]
        cases e : ft P k r with
        | false => rw [if_pos (by decide), if_neg (by decide)]; rfl
        | true => rw [if_neg (by decide), if_pos rfl, iI_add, show ((1 + mx3 (rc P w (k + 1)) r : Nat) : Int) = (mx3 (rc P w (k + 1)) r : Int) + 1 by omega]; rfl
      · intro k' g1 g2 r' g3
        dsimp only
        rw [zwr_k (by omega)]; exact a1 k' g1 g2 r' g3
      · intro r' h
        dsimp only
        rcases (show r' < r ∨ r' = r by omega) with g | g
        · rw [zwr_k (by omega)]; exact a2 r' g
        · rw [g, zwr_s]
      · intro c j c1 c2 c3
        dsimp only
        rw [zwr_o c2]; exact a3 c j c1 c2 c3
    · rintro ⟨y, M2⟩ ⟨e1, a1, a2, a3⟩
      dsimp only at e1 a1 a2 a3
      refine ⟨(y, M2), ?_, y, M2, rfl, a1, a2, a3⟩
      show fX7_findLeads_L13 (iI k) y M2 = _
      unfold fX7_findLeads_L13
      rw [e1, li_32, fle_p (by omega) (by omega) (by omega)]
  refine ⟨y, M', hb, fun k' g1 g2 r hr => ?_, h3⟩
  rcases (show k' = k ∨ k + 1 ≤ k' by omega) with g | g
  · rw [g]; exact h2 r hr
  · exact h1 k' g g2 r hr
theorem r_leads {M : zMem} {P : Nat → Nat → Bool} {w : Nat} (hP : rPg M w P) : ∃ M', fX7_findLeads M = some M' ∧ rLd P w M' 0 ∧ rLo M M' := by
  have hw := hP.2.1
  have hw1 := hP.1
  obtain ⟨b, hb, y, M', rfl, h1, h2⟩ : ∃ b, zlp (zu2 fX7_findLeads_L7) zfu (iI ((w : Int) - 1), M) = some b ∧ ∃ y M', b = (y, M') ∧ rLd P w M' 0 ∧ rLo M M' := by
    refine zlp_inv (I := fun d p => p.1 = iI ((w : Int) - 1 - (d : Int)) ∧ rLd P w p.2 (w - d) ∧ rLo M p.2) _ w (by omega) ⟨by dsimp only; congr 1; omega, fun k a1 a2 => absurd a2 (by omega), rLo_rf⟩ ?_ ?_
    · rintro d ⟨y, M2⟩ hd ⟨e1, a1, a2⟩
      dsimp only at e1 a1 a2
      obtain ⟨k, hk⟩ : ∃ k, w - d = k + 1 := ⟨w - d - 1, by omega⟩
      rw [hk] at a1
      obtain ⟨x3, M3, e3, b1, b2⟩ := r_leadCol (rPg_lo hP a2) a1 (show k < w by omega)
      refine Or.inl ⟨(iI ((w : Int) - 1 - ((d + 1 : Nat) : Int)), M3), ?_, rfl, by rw [show w - (d + 1) = k by omega]; exact b1, rLo_tr a2 b2⟩
      show fX7_findLeads_L7 y M2 = _
      unfold fX7_findLeads_L7
      rw [e1, show (-1 : Int32) = iI (-1) from rfl, li_0, flt_n (by omega) (by omega) (by omega), show (w : Int) - 1 - (d : Int) = (k : Int) by omega, e3, zb1_eq, show (w : Int) - 1 - ((d + 1 : Nat) : Int) = (k : Int) + -1 by omega, ← iI_add]
    · rintro ⟨y, M2⟩ ⟨e1, a1, a2⟩
      dsimp only at e1 a1 a2
      rw [show w - w = 0 by omega] at a1
      refine ⟨(y, M2), ?_, y, M2, rfl, a1, a2⟩
      show fX7_findLeads_L7 y M2 = _
      unfold fX7_findLeads_L7
      rw [e1, li_0, flt_p (by omega) (by omega) (by omega)]
  refine ⟨M', ?_, h1, h2⟩
  unfold fX7_findLeads
  rw [zn_eq, hP.2.2.1, li_1, iI_sub, hb, zb1_eq]
