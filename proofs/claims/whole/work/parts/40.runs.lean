/-! the runs, row by row -/
def uN (f : Nat → Nat) (k x : Nat) : Nat → Nat := fun i => if i = k then x else f i
theorem uN_s {f : Nat → Nat} {k x : Nat} : uN f k x k = x := if_pos rfl
theorem uN_o {f : Nat → Nat} {k x i : Nat} (h : i ≠ k) : uN f k x i = f i := if_neg h
abbrev zRS := Nat × (Nat → Nat) × (Nat → Nat) × (Nat → Nat)
def opn (P : Nat → Nat → Bool) (r k : Nat) : Bool := decide (0 < k) && P (k - 1) r
def rst (P : Nat → Nat → Bool) (r k : Nat) (S : zRS) : zRS := if P k r = true then (if opn P r k = true then (S.1, S.2.1, S.2.2.1, uN S.2.2.2 (S.1 - 1) k) else (S.1 + 1, uN S.2.1 S.1 r, uN S.2.2.1 S.1 k, uN S.2.2.2 S.1 k)) else S
def rrw (P : Nat → Nat → Bool) (r : Nat) (S : zRS) : Nat → zRS
  | 0 => S
  | k + 1 => rst P r k (rrw P r S k)
def ral (P : Nat → Nat → Bool) (w : Nat) : Nat → zRS
  | 0 => (0, fun _ => 0, fun _ => 0, fun _ => 0)
  | r + 1 => rrw P r (ral P w r) w
theorem opn_0 (P : Nat → Nat → Bool) (r : Nat) : opn P r 0 = false := rfl
theorem opn_s (P : Nat → Nat → Bool) (r k : Nat) : opn P r (k + 1) = P k r := by unfold opn; rw [decide_eq_true (by omega)]; rfl
def rIv (P : Nat → Nat → Bool) (r k b : Nat) (S : zRS) : Prop := b ≤ S.1 ∧ S.1 ≤ 12 * r + (k + 1) / 2 ∧ (opn P r k = false → S.1 ≤ 12 * r + k / 2) ∧ (opn P r k = true → b < S.1 ∧ S.2.2.2 (S.1 - 1) = k - 1) ∧ (∀ j, j < S.1 → S.2.1 j < 32 ∧ S.2.2.1 j ≤ S.2.2.2 j ∧ S.2.2.2 j < 24) ∧ (∀ j, b ≤ j → j < S.1 → S.2.1 j = r) ∧ (∀ j, j < b → S.2.1 j < r)
def rSm (b : Nat) (S S' : zRS) : Prop := ∀ j, j < b → S'.2.1 j = S.2.1 j ∧ S'.2.2.1 j = S.2.2.1 j ∧ S'.2.2.2 j = S.2.2.2 j
theorem rst_iv {P : Nat → Nat → Bool} {r k b : Nat} {S : zRS} (h : rIv P r k b S) (hr : r < 32) (hk : k < 24) : rIv P r (k + 1) b (rst P r k S) ∧ rSm b S (rst P r k S) := by
  obtain ⟨n, ro, fi, la⟩ := S
  obtain ⟨h1, h2, h3, h4, h5, h6, h7⟩ := h
  dsimp only at h1 h2 h3 h4 h5 h6 h7
  unfold rst
  cases e1 : P k r with
  | false =>
    rw [if_neg (by decide)]
    refine ⟨⟨h1, by dsimp only; omega, fun _ => by dsimp only; omega, fun h => ?_, h5, h6, h7⟩, fun j hj => ⟨rfl, rfl, rfl⟩⟩
    rw [opn_s, e1] at h; cases h
  | true =>
    rw [if_pos rfl]
    cases e2 : opn P r k with
    | true =>
      rw [if_pos rfl]
      obtain ⟨g1, g2⟩ := h4 e2
      dsimp only
      refine ⟨⟨h1, by dsimp only; omega, fun h => ?_, fun _ => ⟨g1, uN_s⟩, ?_, h6, h7⟩, ?_⟩
      · rw [opn_s, e1] at h; cases h
      · intro j hj
        obtain ⟨a1, a2, a3⟩ := h5 j hj
        dsimp only
        by_cases q : j = n - 1
        · subst q; rw [uN_s]; omega
        · rw [uN_o q]; omega
      · intro j hj
        exact ⟨rfl, rfl, uN_o (by omega)⟩
    | false =>
      rw [if_neg (by decide)]
      have g := h3 e2
      refine ⟨⟨by dsimp only; omega, by dsimp only; omega, fun h => ?_, fun _ => ⟨by dsimp only; omega, ?_⟩, ?_, ?_, ?_⟩, ?_⟩
      · rw [opn_s, e1] at h; cases h
      · show uN la n k (n + 1 - 1) = k + 1 - 1
        rw [show n + 1 - 1 = n by omega, uN_s]; omega
      · show ∀ j, j < n + 1 → uN ro n r j < 32 ∧ uN fi n k j ≤ uN la n k j ∧ uN la n k j < 24
        intro j hj
        by_cases q : j = n
        · subst q; rw [uN_s, uN_s, uN_s]; omega
        · rw [uN_o q, uN_o q, uN_o q]; exact h5 j (by omega)
      · show ∀ j, b ≤ j → j < n + 1 → uN ro n r j = r
        intro j hb hj
        by_cases q : j = n
        · subst q; rw [uN_s]
        · rw [uN_o q]; exact h6 j hb (by omega)
      · show ∀ j, j < b → uN ro n r j < r
        intro j hj
        rw [uN_o (by omega)]; exact h7 j hj
      · intro j hj
        exact ⟨uN_o (by dsimp only; omega), uN_o (by dsimp only; omega), uN_o (by dsimp only; omega)⟩
theorem rSm_tr {b : Nat} {S S' S'' : zRS} (h1 : rSm b S S') (h2 : rSm b S' S'') : rSm b S S'' := fun j hj => ⟨(h2 j hj).1.trans (h1 j hj).1, (h2 j hj).2.1.trans (h1 j hj).2.1, (h2 j hj).2.2.trans (h1 j hj).2.2⟩
theorem rrw_iv {P : Nat → Nat → Bool} {r b : Nat} {S : zRS} (h : rIv P r 0 b S) (hr : r < 32) : ∀ k, k ≤ 24 → rIv P r k b (rrw P r S k) ∧ rSm b S (rrw P r S k)
  | 0, _ => ⟨h, fun j _ => ⟨rfl, rfl, rfl⟩⟩
  | k + 1, hk => by
    obtain ⟨g1, g2⟩ := rrw_iv h hr k (by omega)
    obtain ⟨g3, g4⟩ := rst_iv g1 hr (by omega)
    exact ⟨g3, rSm_tr g2 g4⟩
theorem rIv_next {P : Nat → Nat → Bool} {r w b : Nat} {S : zRS} (h : rIv P r w b S) (hw : w ≤ 24) : rIv P (r + 1) 0 S.1 S := by
  obtain ⟨h1, h2, h3, h4, h5, h6, h7⟩ := h
  refine ⟨by omega, by omega, fun _ => by omega, fun h => (by cases h), h5, fun j _ _ => (by omega), fun j hj => ?_⟩
  rcases (show j < b ∨ b ≤ j by omega) with q | q
  · have := h7 j q; omega
  · have := h6 j q hj; omega
theorem ral_iv (P : Nat → Nat → Bool) {w : Nat} (hw : w ≤ 24) : ∀ r, r ≤ 32 → rIv P r 0 (ral P w r).1 (ral P w r)
  | 0, _ => ⟨Nat.le_refl _, Nat.zero_le _, fun _ => Nat.zero_le _, fun h => (by cases h), fun j hj => absurd hj (Nat.not_lt_zero j), fun j _ hj => absurd hj (Nat.not_lt_zero j), fun j hj => absurd hj (Nat.not_lt_zero j)⟩
  | r + 1, hr => rIv_next (rrw_iv (ral_iv P hw r (by omega)) (by omega) w hw).1 hw
theorem ral_row (P : Nat → Nat → Bool) {w : Nat} (hw : w ≤ 24) {r : Nat} (hr : r < 32) : rIv P r w (ral P w r).1 (ral P w (r + 1)) ∧ rSm (ral P w r).1 (ral P w r) (ral P w (r + 1)) := rrw_iv (ral_iv P hw r (by omega)) hr w hw
theorem ral_sm (P : Nat → Nat → Bool) {w : Nat} (hw : w ≤ 24) (r : Nat) : ∀ d, r + d ≤ 32 → (ral P w r).1 ≤ (ral P w (r + d)).1 ∧ rSm (ral P w r).1 (ral P w r) (ral P w (r + d))
  | 0, _ => ⟨Nat.le_refl _, fun j _ => ⟨rfl, rfl, rfl⟩⟩
  | d + 1, h => by
    obtain ⟨g1, g2⟩ := ral_sm P hw r d (by omega)
    obtain ⟨g3, g4⟩ := ral_row P hw (r := r + d) (by omega)
    have g5 := g3.1
    refine ⟨Nat.le_trans g1 g5, rSm_tr g2 (fun j hj => g4 j (by omega))⟩
/-- the runs of the whole page -/
def nR (P : Nat → Nat → Bool) (w : Nat) : Nat := (ral P w 32).1
def roR (P : Nat → Nat → Bool) (w : Nat) : Nat → Nat := (ral P w 32).2.1
def fiR (P : Nat → Nat → Bool) (w : Nat) : Nat → Nat := (ral P w 32).2.2.1
def laR (P : Nat → Nat → Bool) (w : Nat) : Nat → Nat := (ral P w 32).2.2.2
def tc (P : Nat → Nat → Bool) (w i j : Nat) : Prop := (roR P w i + 1 = roR P w j ∨ roR P w j + 1 = roR P w i) ∧ fiR P w i ≤ laR P w j + 1 ∧ fiR P w j ≤ laR P w i + 1
theorem tc_sy {P : Nat → Nat → Bool} {w i j : Nat} (h : tc P w i j) : tc P w j i := ⟨h.1.symm, h.2.2, h.2.1⟩
/-! the class's scan -/
def cRn (M : zMem) (S : zRS) : Prop := M 26 5 = iI S.1 ∧ ∀ j, j < S.1 → M 27 j = iI (S.2.1 j) ∧ M 28 j = iI (S.2.2.1 j) ∧ M 29 j = iI (S.2.2.2 j)
def cRo (b : Nat) (M M' : zMem) : Prop := (∀ c k, (c ≠ 26 ∨ k ≠ 5) → c ≠ 27 → c ≠ 28 → c ≠ 29 → c ≠ 30 → M' c k = M c k) ∧ ∀ j, j < b → M' 30 j = M 30 j
theorem c_step {M : zMem} {w : Nat} {P : Nat → Nat → Bool} {S : zRS} {r k b : Nat} (hP : cPg M w P) (hi : rIv P r k b S) (hr : r < 32) (hk : k < w) (hM : cRn M S) : ∃ M', fX5_addRuns_L5 (iI r) (iI k) (b2 (opn P r k)) M = some (.inl (iI ((k + 1 : Nat) : Int), b2 (opn P r (k + 1)), M')) ∧ cRn M' (rst P r k S) ∧ cRo S.1 M M' ∧ ∀ j, S.1 ≤ j → j < (rst P r k S).1 → M' 30 j = iI j := by
  have hw := hP.2.1
  have hP3 := hP.2.2.1
  obtain ⟨n, ro, fi, la⟩ := S
  obtain ⟨h1, h2, h3, h4, h5, h6, h7⟩ := hi
  obtain ⟨m1, m2⟩ := hM
  dsimp only at h1 h2 h3 h4 h5 h6 h7 m1 m2 ⊢
  rw [opn_s]
  unfold fX5_addRuns_L5 fX4_width rst
  rw [zb1_eq, hP3, fle_n (by omega) (by omega) (by omega), c_inkedN hP (by omega) (by omega), zb1_eq, zj_eq, li_1, iI_add]
  cases e1 : P k r with
  | false =>
    rw [if_pos (by decide), if_neg (by decide)]
    dsimp only
    rw [zj_eq, if_pos (by decide)]
    exact ⟨M, rfl, ⟨m1, m2⟩, ⟨fun _ _ _ _ _ _ _ => rfl, fun _ _ => rfl⟩, fun j g1 g2 => absurd g2 (by omega)⟩
  | true =>
    rw [if_neg (by decide), if_pos rfl]
    cases e2 : opn P r k with
    | true =>
      obtain ⟨g1, g2⟩ := h4 e2
      rw [if_neg (by decide), if_pos rfl]
      dsimp only
      rw [zj_eq, if_neg (by decide), m1, li_0, fle_n (by omega) (by omega) (by omega), iI_sub, zc_in (by omega) (by omega) (by omega), zn_eq, iI_nat (by omega) (by omega), show ((n : Int) - 1).toNat = n - 1 by omega]
      refine ⟨zwr M 29 (n - 1) (iI k), rfl, ⟨?_, ?_⟩, ⟨?_, ?_⟩, fun j g1 g2 => absurd g2 (by omega)⟩
      · rw [zwr_o (by decide)]; exact m1
      · show ∀ j, j < n → zwr M 29 (n - 1) (iI k) 27 j = iI (ro j) ∧ zwr M 29 (n - 1) (iI k) 28 j = iI (fi j) ∧ zwr M 29 (n - 1) (iI k) 29 j = iI (uN la (n - 1) k j)
        intro j hj
        rw [zwr_o (by decide), zwr_o (by decide)]
        refine ⟨(m2 j hj).1, (m2 j hj).2.1, ?_⟩
        by_cases q : j = n - 1
        · rw [q, zwr_s, uN_s]
        · rw [zwr_k q, uN_o q]; exact (m2 j hj).2.2
      · intro c k' a1 a2 a3 a4 a5; rw [zwr_o a4]
      · intro j hj; rw [zwr_o (by decide)]
    | false =>
      have g := h3 e2
      rw [if_pos (by decide), m1, li_384, fle_n (by omega) (by omega) (by omega), zc_in (by omega) (by omega) (by omega), zn_eq, iI_natN (by omega), zwr_o (by decide), m1, zc_in (by omega) (by omega) (by omega), zn_eq, iI_natN (by omega), zwr_o (by decide), zwr_o (by decide), m1, zc_in (by omega) (by omega) (by omega), zn_eq, iI_natN (by omega), zn_eq, zwr_o (by decide), zwr_o (by decide), zwr_o (by decide), m1, iI_add, if_neg (by decide)]
      dsimp only
      rw [zj_eq, if_neg (by decide), zwr_s, li_0, fle_n (by omega) (by omega) (by omega), iI_sub, zc_in (by omega) (by omega) (by omega), zn_eq, iI_nat (by omega) (by omega), show ((n : Int) + 1 - 1).toNat = n by omega]
      refine ⟨_, rfl, ⟨?_, ?_⟩, ⟨?_, ?_⟩, ?_⟩
      · rw [zwr_o (by decide), zwr_s]; rfl
      · show ∀ j, j < n + 1 → zwr _ 29 n _ 27 j = iI (uN ro n r j) ∧ zwr _ 29 n _ 28 j = iI (uN fi n k j) ∧ zwr _ 29 n _ 29 j = iI (uN la n k j)
        intro j hj
        by_cases q : j = n
        · subst q
          rw [uN_s, uN_s, uN_s, zwr_s]
          ((simp (disch := omega) only [zn_eq, zj_eq, zb1_eq, zb2_eq, zb3_eq, zbr_l, zbr_r, zc_in, iI_add, iI_sub, iI_mul, iI_neg, iI_lt, iI_le, iI_eq, zwr_zwr, zwa_zwa, zwr_s, zwr_o, zwr_O, zwr_k, zwa_s, zwa_S, zwa_o, zwa_O, upd_s, upd_o, if_true, if_false, if_pos, if_neg, iI_natN, iI_nat, Int.toNat_natCast, c_isRow1, c_isRow0, c_isCard1, c_isCard0, r_within1, r_within0, r_isRow1, r_isRow0, r_isCard1, r_isCard0, c_isAxis1, c_isAxis0, c_isShear1, c_isShear0, r_isAxis1, r_isAxis0, r_isShear1, r_isShear0, zc_cp, li_0, li_1, li_2, li_3, li_4, li_5, li_6, li_7, li_8, li_9, li_10, li_11, li_12, li_15, li_16, li_18, li_22, li_23, li_24, li_28, li_31, li_32, li_33, li_40, li_52, li_53, li_63, li_64, li_85, li_86, li_96, li_99, li_100, li_127, li_128, li_200, li_201, li_384, li_768, li_1023, li_5376, li_6144]); try rfl)
          exact ⟨trivial, trivial, trivial⟩
        · rw [uN_o q, uN_o q, uN_o q, zwr_k q]
          simp only [zwr_o (show (27 : Nat) ≠ 29 by decide), zwr_o (show (28 : Nat) ≠ 29 by decide), zwr_o (show (27 : Nat) ≠ 26 by decide), zwr_o (show (28 : Nat) ≠ 26 by decide), zwr_o (show (29 : Nat) ≠ 26 by decide), zwr_o (show (27 : Nat) ≠ 30 by decide), zwr_o (show (28 : Nat) ≠ 30 by decide), zwr_o (show (29 : Nat) ≠ 30 by decide), zwr_o (show (27 : Nat) ≠ 28 by decide), zwr_o (show (29 : Nat) ≠ 28 by decide), zwr_o (show (28 : Nat) ≠ 27 by decide), zwr_o (show (29 : Nat) ≠ 27 by decide), zwr_k q]
          exact m2 j (by omega)
      · intro c k' a1 a2 a3 a4 a5
        rw [zwr_o a4]
        rcases Classical.em (c = 26) with e | e
        · subst e; rw [zwr_k (by omega), zwr_o (by decide), zwr_o (by decide), zwr_o (by decide)]
        · rw [zwr_o e, zwr_o a5, zwr_o a3, zwr_o a2]
      · intro j hj
        rw [zwr_o (by decide), zwr_o (by decide), zwr_k (by omega), zwr_o (by decide), zwr_o (by decide)]
      · intro j j1 j2
        have : j = n := by omega
        subst this
        rw [zwr_o (by decide), zwr_o (by decide), zwr_s]
