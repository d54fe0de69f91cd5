/-! the class's find -/
def rOK (P : Nat → Nat → Bool) (w : Nat) (ρ : Nat → Nat) : Prop := (∀ j, ρ j ≤ j ∧ ρ (ρ j) = ρ j ∧ cn P w (ρ j) j) ∧ ∀ i j, i < nR P w → j < nR P w → tc P w i j → ρ i = ρ j
def nu (ρ : Nat → Nat) (n : Nat) : Nat := fb_ct (fun i => decide (ρ i = i)) n
theorem nu_le (ρ : Nat → Nat) (n : Nat) : nu ρ n ≤ n := fb_ct_le _ n
def cFo (M M' : zMem) : Prop := ∀ c k, (c < 26 ∨ 31 < c) → M' c k = M c k
theorem cFo_ag {M M' : zMem} (h : cFo M M') : Ag M M' := fun c k hk => h c k (by
  rcases (show (c < 26 ∨ 31 < c) ∨ c = 26 ∨ c = 27 ∨ c = 28 ∨ c = 29 ∨ c = 30 ∨ c = 31 by omega) with q | rfl | rfl | rfl | rfl | rfl | rfl
  · exact q
  all_goals (simp [relv] at hk))
theorem c_scan {M : zMem} {w : Nat} {P : Nat → Nat → Bool} (hP : cPg M w P) : ∃ x y M' l ρ, zlp (zu3 fX5_find_L9) zfu (iI 0, iI 0, zwr M 26 5 (iI 0)) = some (x, y, M') ∧ cRF P w M' (nR P w) ∧ uOK P w M' (nR P w) l ρ ∧ (∀ i j, i < nR P w → j < nR P w → tc P w i j → ρ i = ρ j) ∧ cFo M M' := by
  have hw := hP.2.1
  obtain ⟨b, hb, x, y, M', rfl, l', ρ', h1, h2, h3, h4⟩ : ∃ b, zlp (zu3 fX5_find_L9) zfu (iI 0, iI 0, zwr M 26 5 (iI 0)) = some b ∧ ∃ x y M', b = (x, y, M') ∧ ∃ l ρ, cRn M' (ral P w 32) ∧ uOK P w M' (nR P w) l ρ ∧ (∀ i j, i < nR P w → j < nR P w → tc P w i j → ρ i = ρ j) ∧ cFo M M' := by
    refine zlp_inv (I := fun r p => p.1 = iI (r : Int) ∧ p.2.1 = iI (ral P w (r - 1)).1 ∧ ∃ l ρ, cRn p.2.2 (ral P w r) ∧ uOK P w p.2.2 (ral P w r).1 l ρ ∧ (∀ i j, i < (ral P w r).1 → j < (ral P w r).1 → tc P w i j → ρ i = ρ j) ∧ cFo M p.2.2) _ 32 (by omega) ⟨rfl, rfl, fun j => j, fun j => j, ⟨by dsimp only; rw [zwr_s]; rfl, fun j hj => absurd hj (Nat.not_lt_zero j)⟩, ⟨fun j hj => absurd hj (Nat.not_lt_zero j), ufO_id, fun _ _ => rfl, fun _ => cn_rf⟩, fun i j hi => absurd hi (Nat.not_lt_zero i), fun c k hc => zwr_o (by omega)⟩ ?_ ?_
    · rintro r ⟨x, y, M2⟩ hr ⟨e1, e2, l, ρ, t, u, q, f⟩
      dsimp only at e1 e2 t u f
      have hP2 := cPg_ag hP (cFo_ag f)
      obtain ⟨M3, e3, t3, o3, l3⟩ := c_addRuns hP2 (ral_iv P hw r (by omega)) hr t
      have hrow := ral_row P hw hr
      obtain ⟨g1, g2⟩ := ral_nR P hw (r := r + 1) (by omega)
      have hle : (ral P w r).1 ≤ (ral P w (r + 1)).1 := hrow.1.1
      have hle0 : (ral P w (r - 1)).1 ≤ (ral P w r).1 := by
        have := (ral_sm P hw (r - 1) (r - (r - 1)) (by omega)).1
        rw [show r - 1 + (r - (r - 1)) = r by omega] at this
        exact this
      have hlt : ∀ j, j < (ral P w (r - 1)).1 → roR P w j < r - 1 := by
        intro j hj
        rw [((ral_nR P hw (r := r - 1) (by omega)).2 j hj).1]
        exact (ral_iv P hw (r - 1) (by omega)).2.2.2.2.2.2 j hj
      have hA : ∀ j, j < (ral P w r).1 → roR P w j < r := by
        intro j hj
        rw [((ral_nR P hw (r := r) (by omega)).2 j hj).1]
        exact (ral_iv P hw r (by omega)).2.2.2.2.2.2 j hj
      have hB : ∀ j, (ral P w r).1 ≤ j → j < (ral P w (r + 1)).1 → roR P w j = r := by
        intro j h1 h2
        rw [(g2 j h2).1]
        exact hrow.1.2.2.2.2.2.1 j h1 h2
      have hC : ∀ j, (ral P w (r - 1)).1 ≤ j → j < (ral P w r).1 → roR P w j + 1 = r := by
        intro j h1 h2
        rcases (show r = 0 ∨ ∃ s, r = s + 1 from by cases r with | zero => exact Or.inl rfl | succ s => exact Or.inr ⟨s, rfl⟩) with rfl | ⟨s, rfl⟩
        · exact absurd h2 (by show ¬ j < 0; omega)
        · have h5 := (ral_row P hw (r := s) (by omega)).1.2.2.2.2.2.1 j (by rw [show s + 1 - 1 = s by omega] at h1; exact h1) h2
          rw [((ral_nR P hw (r := s + 1) (by omega)).2 j h2).1, h5]
      have u3 : uOK P w M3 (ral P w (r + 1)).1 l ρ := by
        refine ⟨fun j hj => ?_, u.2.1, fun j hj => u.2.2.1 j (by omega), u.2.2.2⟩
        rcases (show j < (ral P w r).1 ∨ (ral P w r).1 ≤ j by omega) with g | g
        · rw [o3.2 j g]; exact u.1 j g
        · rw [l3 j g hj, u.2.2.1 j g]
      have t3' : cRF P w M3 (ral P w (r + 1)).1 := cRF_of hw (by omega) t3
      obtain ⟨M4, l4, ρ4, e4, u4, g4, q4, f4⟩ := c_links hw g1 t3' u3 hle0 hle (fun a b a1 a2 b1 b2 => by rw [hB b b1 b2]; exact hC a a1 a2)
      refine Or.inl ⟨(iI ((r + 1 : Nat) : Int), iI (ral P w r).1, M4), ?_, rfl, rfl, l4, ρ4, ⟨by dsimp only; rw [f4 _ _ (by decide)]; exact t3.1, fun j hj => by dsimp only; rw [f4 _ _ (by decide), f4 _ _ (by decide), f4 _ _ (by decide)]; exact t3.2 j hj⟩, u4, ?_, ?_⟩
      · show fX5_find_L9 x y M2 = _
        unfold fX5_find_L9
        rw [e1, e2, li_32, fle_n (by omega) (by omega) (by omega), zn_eq, e3, zb1_eq, t.1, e4, zb1_eq, li_1, iI_add]; rfl
      · intro i j hi hj ht
        rcases (show i < (ral P w r).1 ∨ (ral P w r).1 ≤ i by omega) with gi | gi
        · rcases (show j < (ral P w r).1 ∨ (ral P w r).1 ≤ j by omega) with gj | gj
          · exact g4 i j (q i j gi gj ht)
          · have r1 := hB j gj hj
            have r2 := hA i gi
            have r3 := ht.1
            refine q4 i j ?_ gi gj hj ht
            rcases (show i < (ral P w (r - 1)).1 ∨ (ral P w (r - 1)).1 ≤ i by omega) with s | s
            · have := hlt i s; omega
            · exact s
        · have r1 := hB i gi hi
          rcases (show j < (ral P w r).1 ∨ (ral P w r).1 ≤ j by omega) with gj | gj
          · have r2 := hA j gj
            have r3 := ht.1
            refine (q4 j i ?_ gj gi hi (tc_sy ht)).symm
            rcases (show j < (ral P w (r - 1)).1 ∨ (ral P w (r - 1)).1 ≤ j by omega) with s | s
            · have := hlt j s; omega
            · exact s
          · have r2 := hB j gj hj
            have r3 := ht.1
            omega
      · intro c k hc
        dsimp only
        rw [f4 c k (by omega), o3.1 c k (by omega) (by omega) (by omega) (by omega) (by omega)]
        exact f c k hc
    · rintro ⟨x, y, M2⟩ ⟨e1, e2, l, ρ, t, u, q, f⟩
      dsimp only at e1 e2 t u f
      refine ⟨(x, y, M2), ?_, x, y, M2, rfl, l, ρ, t, u, q, f⟩
      show fX5_find_L9 x y M2 = _
      unfold fX5_find_L9
      rw [e1, li_32, fle_p (by omega) (by omega) (by omega)]
  exact ⟨x, y, M', l', ρ', hb, cRF_of hw (Nat.le_refl _) h1, h2, h3, h4⟩
theorem nu_in (ρ : Nat → Nat) (n : Nat) (h : ρ n = n) : nu ρ (n + 1) = nu ρ n + 1 := by
  unfold nu; rw [fb_ct_succ, if_pos (decide_eq_true h)]
theorem nu_out (ρ : Nat → Nat) (n : Nat) (h : ρ n ≠ n) : nu ρ (n + 1) = nu ρ n := by
  unfold nu; rw [fb_ct_succ, if_neg (by rw [decide_eq_true_iff]; exact h)]; rfl
def cSt (P : Nat → Nat → Bool) (w : Nat) (M : zMem) (ρ : Nat → Nat) : Prop := cRF P w M (nR P w) ∧ M 26 6 = iI (nu ρ (nR P w)) ∧ ∀ j, j < nR P w → M 31 j = iI (nu ρ (ρ j))
theorem c_numbers {M : zMem} {w : Nat} {P : Nat → Nat → Bool} {l ρ : Nat → Nat} (hw : w ≤ 24) (hM : cRF P w M (nR P w)) (hu : uOK P w M (nR P w) l ρ) : ∃ M', fX5_numberStrokes M = some M' ∧ cSt P w M' ρ ∧ cFo M M' := by
  have hN := nR_le P hw
  obtain ⟨n, en⟩ : ∃ n, n = nR P w := ⟨_, rfl⟩
  rw [← en] at hM hu hN
  unfold cSt
  rw [← en]
  obtain ⟨b, hb, x, M', rfl, h1, h2, h3⟩ : ∃ b, zlp (zu2 fX5_numberStrokes_L7) zfu (iI 0, zwr M 26 6 (iI 0)) = some b ∧ ∃ x M', b = (x, M') ∧ M' 26 6 = iI (nu ρ n) ∧ (∀ j, j < n → M' 31 j = iI (nu ρ (ρ j))) ∧ ∀ c k, (c ≠ 26 ∨ k ≠ 6) → c ≠ 31 → M' c k = M c k := by
    refine zlp_inv (I := fun i p => p.1 = iI (i : Int) ∧ p.2 26 6 = iI (nu ρ i) ∧ (∀ j, j < i → p.2 31 j = iI (nu ρ (ρ j))) ∧ ∀ c k, (c ≠ 26 ∨ k ≠ 6) → c ≠ 31 → p.2 c k = M c k) _ n (by omega) ⟨rfl, by dsimp only; rw [zwr_s]; rfl, fun j hj => absurd hj (Nat.not_lt_zero j), ?_⟩ ?_ ?_
    · intro c k a1 a2
      dsimp only
      rcases Classical.em (c = 26) with e | e
      · subst e; rw [zwr_k (by omega)]
      · rw [zwr_o e]
    · rintro i ⟨x, M2⟩ hi ⟨e1, c2, t2, f2⟩
      dsimp only at e1 c2 t2 f2
      have m5 : M2 26 5 = iI n := by rw [f2 _ _ (by decide) (by decide)]; exact hM.1
      have ml : M2 30 i = iI (l i) := by rw [f2 _ _ (by omega) (by decide)]; exact hu.1 i hi
      obtain ⟨u1, u2, u3, u4, u5⟩ := hu.2.1 i
      by_cases q : l i = i
      · refine Or.inl ⟨(iI ((i + 1 : Nat) : Int), zwr (zwr M2 31 i (iI (nu ρ i))) 26 6 (iI (nu ρ i + 1))), ?_, rfl, ?_, ?_, ?_⟩
        · show fX5_numberStrokes_L7 x M2 = _
          unfold fX5_numberStrokes_L7
          rw [e1, m5, fle_n (by omega) (by omega) (by omega), zc_in (by omega) (by omega) (by omega), iI_natN (by omega), zj_eq, ml, q, if_pos rfl, zc_in (by omega) (by omega) (by omega), zn_eq, zn_eq, zwr_o (by decide), c2, li_1, iI_add, iI_add]; rfl
        · dsimp only; rw [zwr_s, nu_in ρ i (u5 q)]; rfl
        · intro j hj
          dsimp only
          rw [zwr_o (by decide)]
          rcases (show j < i ∨ j = i by omega) with g | g
          · rw [zwr_k (by omega)]; exact t2 j g
          · rw [g, zwr_s, u5 q]
        · intro c k a1 a2
          dsimp only
          rcases Classical.em (c = 26) with e | e
          · subst e; rw [zwr_k (by omega), zwr_o (by decide)]; exact f2 _ _ a1 a2
          · rw [zwr_o e, zwr_o a2]; exact f2 _ _ a1 a2
      · have q2 : ρ i ≠ i := fun e => q (by have := ufO_root hu.2.1 i; rw [e] at this; exact this)
        refine Or.inl ⟨(iI ((i + 1 : Nat) : Int), zwr M2 31 i (iI (nu ρ (ρ i)))), ?_, rfl, ?_, ?_, ?_⟩
        · show fX5_numberStrokes_L7 x M2 = _
          unfold fX5_numberStrokes_L7
          rw [e1, m5, fle_n (by omega) (by omega) (by omega), zc_in (by omega) (by omega) (by omega), iI_natN (by omega), zj_eq, ml, feq_n (by omega) (by omega) (by omega), zc_in (by omega) (by omega) (by omega), zc_in (by omega) (by omega) (by omega), zc_in (by omega) (by omega) (by omega), zn_eq, iI_natN (by omega), t2 (l i) (by omega), u3, li_1, iI_add]; rfl
        · dsimp only; rw [zwr_o (by decide), nu_out ρ i q2]; exact c2
        · intro j hj
          dsimp only
          rcases (show j < i ∨ j = i by omega) with g | g
          · rw [zwr_k (by omega)]; exact t2 j g
          · rw [g, zwr_s]
        · intro c k a1 a2
          dsimp only
          rw [zwr_o a2]; exact f2 _ _ a1 a2
    · rintro ⟨x, M2⟩ ⟨e1, c2, t2, f2⟩
      dsimp only at e1 c2 t2 f2
      refine ⟨(x, M2), ?_, x, M2, rfl, c2, t2, f2⟩
      show fX5_numberStrokes_L7 x M2 = _
      unfold fX5_numberStrokes_L7
      rw [e1, f2 _ _ (by decide) (by decide), hM.1, fle_p (by omega) (by omega) (by omega)]
  refine ⟨M', ?_, ⟨⟨by rw [h3 _ _ (by decide) (by decide)]; exact hM.1, fun j hj => by rw [h3 _ _ (by omega) (by decide), h3 _ _ (by omega) (by decide), h3 _ _ (by omega) (by decide)]; exact hM.2 j hj⟩, h1, h2⟩, fun c k hc => h3 c k (by omega) (by omega)⟩
  unfold fX5_numberStrokes
  rw [zn_eq, li_0, hb, zb1_eq]
theorem c_find {M : zMem} {w : Nat} {P : Nat → Nat → Bool} (hP : cPg M w P) : ∃ M' ρ, fX5_find M = some M' ∧ cSt P w M' ρ ∧ rOK P w ρ ∧ cFo M M' := by
  obtain ⟨x, y, M1, l, ρ, e1, t1, u1, q1, f1⟩ := c_scan hP
  obtain ⟨M2, e2, t2, f2⟩ := c_numbers hP.2.1 t1 u1
  refine ⟨M2, ρ, ?_, t2, ⟨fun j => ⟨(u1.2.1 j).2.1, (u1.2.1 j).2.2.2.1, u1.2.2.2 j⟩, q1⟩, fun c k hc => (f2 c k hc).trans (f1 c k hc)⟩
  unfold fX5_find
  rw [zn_eq, li_0, e1, zb1_eq]
  show zb1 (fX5_numberStrokes M1) _ = _
  rw [e2, zb1_eq]
