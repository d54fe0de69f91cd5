/-! the reference's scan -/
def rRn (M : zMem) (S : zRS) : Prop := M 60 13 = iI S.1 ∧ ∀ j, j < S.1 → M 70 j = iI (S.2.1 j) ∧ M 71 j = iI (S.2.2.1 j) ∧ M 72 j = iI ((S.2.2.2 j : Int) - (S.2.2.1 j : Int) + 1) ∧ M 73 j = iI (-9)
def rRo (M M' : zMem) : Prop := ∀ c k, (c ≠ 60 ∨ k ≠ 13) → c ≠ 70 → c ≠ 71 → c ≠ 72 → c ≠ 73 → M' c k = M c k
theorem rRo_tr {M M' M'' : zMem} (h1 : rRo M M') (h2 : rRo M' M'') : rRo M M'' := fun c k a1 a2 a3 a4 a5 => (h2 c k a1 a2 a3 a4 a5).trans (h1 c k a1 a2 a3 a4 a5)
theorem rRo_ag {M M' : zMem} (h : rRo M M') : Ag M M' := fun c k hk => h c k (by rcases Classical.em (c = 60 ∧ k = 13) with ⟨e1, e2⟩ | e; (rw [e1, e2] at hk; simp [relv] at hk); omega) (by intro e; rw [e] at hk; simp [relv] at hk) (by intro e; rw [e] at hk; simp [relv] at hk) (by intro e; rw [e] at hk; simp [relv] at hk) (by intro e; rw [e] at hk; simp [relv] at hk)
theorem pI_opn {P : Nat → Nat → Bool} (r k : Nat) : pI P ((k : Int) - 1) (r : Int) = opn P r k := by
  rcases (show k = 0 ∨ ∃ j, k = j + 1 from by cases k with | zero => exact Or.inl rfl | succ s => exact Or.inr ⟨s, rfl⟩) with rfl | ⟨j, rfl⟩
  · unfold pI; rw [decide_eq_false (by omega), Bool.false_and]; rfl
  · rw [show ((j + 1 : Nat) : Int) - 1 = (j : Int) by omega, pI_nat, opn_s]
theorem r_step {M : zMem} {w : Nat} {P : Nat → Nat → Bool} {S : zRS} {r k b : Nat} (hP : rPg M w P) (hi : rIv P r k b S) (hr : r < 32) (hk : k < w) (hM : rRn M S) : ∃ M', fX7_findRuns_L15 (iI r) (iI k) M = some (.inl (iI ((k + 1 : Nat) : Int), M')) ∧ rRn M' (rst P r k S) ∧ rRo M M' := by
  have hw := hP.2.1
  have hP3 := hP.2.2.1
  obtain ⟨n, ro, fi, la⟩ := S
  obtain ⟨h1, h2, h3, h4, h5, h6, h7⟩ := hi
  obtain ⟨m1, m2⟩ := hM
  dsimp only at h1 h2 h3 h4 h5 h6 h7 m1 m2
  unfold fX7_findRuns_L15 rst
  rw [hP3, fle_n (by omega) (by omega) (by omega), r_isDotN hP (by omega) (by omega), zb1_eq, zj_eq, li_1, iI_add]
  cases e1 : P k r with
  | false =>
    rw [if_pos (by decide), if_neg (by decide)]
    dsimp only
    rw [r_isDotN hP (by omega) (by omega), zb1_eq, zj_eq, e1, if_pos (by decide)]
    exact ⟨M, rfl, ⟨m1, m2⟩, fun _ _ _ _ _ _ _ => rfl⟩
  | true =>
    rw [if_neg (by decide), if_pos rfl, iI_sub, r_isDot hP _ _ (by omega) (by omega) (by omega) (by omega), zb1_eq, pI_opn]
    cases e2 : opn P r k with
    | true =>
      obtain ⟨g1, g2⟩ := h4 e2
      have hk0 : 0 < k := by
        unfold opn at e2
        rw [Bool.and_eq_true, decide_eq_true_iff] at e2
        exact e2.1
      rw [if_neg (by decide), if_pos rfl]
      dsimp only
      rw [r_isDotN hP (by omega) (by omega), zb1_eq, zj_eq, e1, if_neg (by decide), m1, iI_sub, zc_in (by omega) (by omega) (by omega), zc_in (by omega) (by omega) (by omega), zn_eq, iI_nat (by omega) (by omega), show ((n : Int) - 1).toNat = n - 1 by omega, (m2 (n - 1) (by omega)).2.2.1, iI_add]
      refine ⟨_, rfl, ⟨?_, ?_⟩, ?_⟩
      · rw [zwr_o (by decide)]; exact m1
      · dsimp only
        intro j hj
        obtain ⟨a1, a2, a3, a4⟩ := m2 j hj
        refine ⟨by rw [zwr_o (by decide)]; exact a1, by rw [zwr_o (by decide)]; exact a2, ?_, by rw [zwr_o (by decide)]; exact a4⟩
        by_cases q : j = n - 1
        · rw [q, zwr_s, uN_s, g2]; congr 1; omega
        · rw [zwr_k q, uN_o q]; exact a3
      · intro c k' a1 a2 a3 a4 a5; rw [zwr_o a4]
    | false =>
      have g := h3 e2
      obtain ⟨M5, eM5⟩ : ∃ M5, M5 = zwr (zwr (zwr (zwr (zwr M 70 n (iI r)) 71 n (iI k)) 72 n (iI 0)) 73 n (iI (-9))) 60 13 (iI ((n : Int) + 1)) := ⟨_, rfl⟩
      have o5 : rRo M M5 := by
        intro c k' a1 a2 a3 a4 a5
        rw [eM5]
        rcases Classical.em (c = 60) with e | e
        · subst e; rw [zwr_k (by omega), zwr_o (by decide), zwr_o (by decide), zwr_o (by decide), zwr_o (by decide)]
        · rw [zwr_o e, zwr_o a5, zwr_o a4, zwr_o a3, zwr_o a2]
      have m5 : M5 60 13 = iI ((n : Int) + 1) := by rw [eM5, zwr_s]
      have m6 : M5 72 n = iI 0 := by rw [eM5, zwr_o (by decide), zwr_o (by decide), zwr_s]
      rw [if_pos (by decide), m1, zc_in (by omega) (by omega) (by omega), zn_eq, iI_natN (by omega), zwr_o (by decide), m1, zc_in (by omega) (by omega) (by omega), zn_eq, iI_natN (by omega), zwr_o (by decide), zwr_o (by decide), m1, zc_in (by omega) (by omega) (by omega), zn_eq, iI_natN (by omega), zwr_o (by decide), zwr_o (by decide), zwr_o (by decide), m1, zc_in (by omega) (by omega) (by omega), zn_eq, iI_natN (by omega), zn_eq, zwr_o (by decide), zwr_o (by decide), zwr_o (by decide), zwr_o (by decide), m1, iI_add, li_0, show (-9 : Int32) = iI (-9) from rfl, ← eM5, if_neg (by decide)]
      dsimp only
      rw [r_isDotN (rPg_ag hP (rRo_ag o5)) (by omega) (by omega), zb1_eq, zj_eq, e1, if_neg (by decide), m5, iI_sub, zc_in (by omega) (by omega) (by omega), zc_in (by omega) (by omega) (by omega), zn_eq, iI_nat (by omega) (by omega), show ((n : Int) + 1 - 1).toNat = n by omega, m6, iI_add]
      refine ⟨_, rfl, ⟨?_, ?_⟩, ?_⟩
      · rw [zwr_o (by decide), m5]; rfl
      · dsimp only
        intro j hj
        by_cases q : j = n
        · subst q
          rw [uN_s, uN_s, uN_s]
          refine ⟨?_, ?_, ?_, ?_⟩
          · rw [zwr_o (by decide), eM5, zwr_o (by decide), zwr_o (by decide), zwr_o (by decide), zwr_o (by decide), zwr_s]
          · rw [zwr_o (by decide), eM5, zwr_o (by decide), zwr_o (by decide), zwr_o (by decide), zwr_s]
          · rw [zwr_s]; congr 1; omega
          · rw [zwr_o (by decide), eM5, zwr_o (by decide), zwr_s]
        · rw [uN_o q, uN_o q, uN_o q]
          obtain ⟨a1, a2, a3, a4⟩ := m2 j (by omega)
          refine ⟨?_, ?_, ?_, ?_⟩
          · rw [zwr_o (by decide), eM5, zwr_o (by decide), zwr_o (by decide), zwr_o (by decide), zwr_o (by decide), zwr_k q]; exact a1
          · rw [zwr_o (by decide), eM5, zwr_o (by decide), zwr_o (by decide), zwr_o (by decide), zwr_k q, zwr_o (by decide)]; exact a2
          · rw [zwr_k q, eM5, zwr_o (by decide), zwr_o (by decide), zwr_k q, zwr_o (by decide), zwr_o (by decide)]; exact a3
          · rw [zwr_o (by decide), eM5, zwr_o (by decide), zwr_k q, zwr_o (by decide), zwr_o (by decide), zwr_o (by decide)]; exact a4
      · intro c k' a1 a2 a3 a4 a5
        rw [zwr_o a4]; exact o5 c k' a1 a2 a3 a4 a5
theorem r_runs {M : zMem} {w : Nat} {P : Nat → Nat → Bool} (hP : rPg M w P) : ∃ M', fX7_findRuns M = some M' ∧ rRn M' (ral P w 32) ∧ rRo M M' := by
  have hw := hP.2.1
  obtain ⟨b, hb, x, M', rfl, t, o⟩ : ∃ b, zlp (zu2 fX7_findRuns_L7) zfu (iI 0, zwr M 60 13 (iI 0)) = some b ∧ ∃ x M', b = (x, M') ∧ rRn M' (ral P w 32) ∧ rRo M M' := by
    refine zlp_inv (I := fun r p => p.1 = iI (r : Int) ∧ rRn p.2 (ral P w r) ∧ rRo M p.2) _ 32 (by omega) ⟨rfl, ⟨by dsimp only; rw [zwr_s]; rfl, fun j hj => absurd hj (Nat.not_lt_zero j)⟩, fun c k a1 a2 a3 a4 a5 => ?_⟩ ?_ ?_
    · dsimp only
      rcases Classical.em (c = 60) with e | e
      · subst e; rw [zwr_k (by omega)]
      · rw [zwr_o e]
    · rintro r ⟨x, M2⟩ hr ⟨e1, t, o⟩
      dsimp only at e1 t o
      obtain ⟨b, hb, x', M', rfl, t', o'⟩ : ∃ b, zlp (zu2 (fX7_findRuns_L15 (iI r))) zfu (iI 0, M2) = some b ∧ ∃ x M', b = (x, M') ∧ rRn M' (ral P w (r + 1)) ∧ rRo M M' := by
        refine zlp_inv (I := fun k p => p.1 = iI (k : Int) ∧ rRn p.2 (rrw P r (ral P w r) k) ∧ rRo M p.2) _ w (by omega) ⟨rfl, t, o⟩ ?_ ?_
        · rintro k ⟨x, M3⟩ hk ⟨e1, t, o⟩
          dsimp only at e1 t o
          obtain ⟨M4, e4, t4, o4⟩ := r_step (rPg_ag hP (rRo_ag o)) (rrw_iv (ral_iv P hw r (by omega)) hr k (by omega)).1 hr hk t
          exact Or.inl ⟨_, by rw [e1]; exact e4, rfl, t4, rRo_tr o o4⟩
        · rintro ⟨x, M3⟩ ⟨e1, t, o⟩
          dsimp only at e1 t o
          refine ⟨(x, M3), ?_, x, M3, rfl, t, o⟩
          show fX7_findRuns_L15 (iI r) x M3 = _
          unfold fX7_findRuns_L15
          rw [e1, (rPg_ag hP (rRo_ag o)).2.2.1, fle_p (by omega) (by omega) (by omega)]
      refine Or.inl ⟨(iI ((r + 1 : Nat) : Int), M'), ?_, rfl, t', o'⟩
      show fX7_findRuns_L7 x M2 = _
      unfold fX7_findRuns_L7
      rw [e1, li_32, fle_n (by omega) (by omega) (by omega), li_0, hb, zb1_eq, li_1, iI_add]; rfl
    · rintro ⟨x, M3⟩ ⟨e1, t, o⟩
      dsimp only at e1 t o
      refine ⟨(x, M3), ?_, x, M3, rfl, t, o⟩
      show fX7_findRuns_L7 x M3 = _
      unfold fX7_findRuns_L7
      rw [e1, li_32, fle_p (by omega) (by omega) (by omega)]
  refine ⟨M', ?_, t, o⟩
  unfold fX7_findRuns
  rw [zn_eq, li_0, hb, zb1_eq]
