/-! the class's rows and links -/
theorem cRo_tr {b b' : Nat} {M M' M'' : zMem} (hb : b ≤ b') (h1 : cRo b M M') (h2 : cRo b' M' M'') : cRo b M M'' := ⟨fun c k a1 a2 a3 a4 a5 => (h2.1 c k a1 a2 a3 a4 a5).trans (h1.1 c k a1 a2 a3 a4 a5), fun j hj => (h2.2 j (by omega)).trans (h1.2 j hj)⟩
theorem cRo_ag {b : Nat} {M M' : zMem} (h : cRo b M M') : Ag M M' := fun c k hk => h.1 c k (by rcases Classical.em (c = 26) with e | e; (rw [e] at hk; simp [relv] at hk); exact Or.inl e) (by intro e; rw [e] at hk; simp [relv] at hk) (by intro e; rw [e] at hk; simp [relv] at hk) (by intro e; rw [e] at hk; simp [relv] at hk) (by intro e; rw [e] at hk; simp [relv] at hk)
theorem rst_le (P : Nat → Nat → Bool) (r k : Nat) (S : zRS) : S.1 ≤ (rst P r k S).1 := by
  unfold rst
  cases P k r with
  | false => rw [if_neg (by decide)]; exact Nat.le_refl _
  | true =>
    rw [if_pos rfl]
    cases opn P r k with
    | false => rw [if_neg (by decide)]; exact Nat.le_succ _
    | true => rw [if_pos rfl]; exact Nat.le_refl _
theorem c_addRuns {M : zMem} {w : Nat} {P : Nat → Nat → Bool} {S : zRS} {r : Nat} (hP : cPg M w P) (hi : rIv P r 0 S.1 S) (hr : r < 32) (hM : cRn M S) : ∃ M', fX5_addRuns (iI r) M = some M' ∧ cRn M' (rrw P r S w) ∧ cRo S.1 M M' ∧ ∀ j, S.1 ≤ j → j < (rrw P r S w).1 → M' 30 j = iI j := by
  have hw := hP.2.1
  obtain ⟨b, hb, x, y, M', rfl, t2, o2, l2⟩ : ∃ b, zlp (zu3 (fX5_addRuns_L5 (iI r))) zfu (iI 0, iI 0, M) = some b ∧ ∃ x y M', b = (x, y, M') ∧ cRn M' (rrw P r S w) ∧ cRo S.1 M M' ∧ ∀ j, S.1 ≤ j → j < (rrw P r S w).1 → M' 30 j = iI j := by
    refine zlp_inv (I := fun k p => p.1 = iI (k : Int) ∧ p.2.1 = b2 (opn P r k) ∧ cRn p.2.2 (rrw P r S k) ∧ cRo S.1 M p.2.2 ∧ ∀ j, S.1 ≤ j → j < (rrw P r S k).1 → p.2.2 30 j = iI j) _ w (by omega) ⟨rfl, rfl, hM, ⟨fun _ _ _ _ _ _ _ => rfl, fun _ _ => rfl⟩, fun j h1 h2 => absurd h2 (by show ¬ j < S.1; omega)⟩ ?_ ?_
    · rintro k ⟨x, y, M2⟩ hk ⟨e1, e2, t, o, l⟩
      dsimp only at e1 e2 t o l
      have hiv := (rrw_iv hi hr k (by omega)).1
      obtain ⟨M3, e3, t3, o3, l3⟩ := c_step (cPg_ag hP (cRo_ag o)) hiv hr hk t
      refine Or.inl ⟨_, by rw [e1, e2]; exact e3, rfl, rfl, t3, cRo_tr hiv.1 o o3, ?_⟩
      intro j j1 j2
      dsimp only
      rcases (show j < (rrw P r S k).1 ∨ (rrw P r S k).1 ≤ j by omega) with q | q
      · rw [o3.2 j q]; exact l j j1 q
      · exact l3 j q j2
    · rintro ⟨x, y, M2⟩ ⟨e1, e2, t, o, l⟩
      dsimp only at e1 e2 t o l
      refine ⟨(x, y, M2), ?_, x, y, M2, rfl, t, o, l⟩
      show fX5_addRuns_L5 (iI r) x y M2 = _
      unfold fX5_addRuns_L5 fX4_width
      rw [zb1_eq, (cPg_ag hP (cRo_ag o)).2.2.1, e1, fle_p (by omega) (by omega) (by omega)]
  refine ⟨M', ?_, t2, o2, l2⟩
  unfold fX5_addRuns
  rw [li_0, hb, zb1_eq]
/-- links, and the first run that they lead to -/
def ufO (l ρ : Nat → Nat) : Prop := ∀ j, l j ≤ j ∧ ρ j ≤ j ∧ ρ (l j) = ρ j ∧ ρ (ρ j) = ρ j ∧ (l j = j → ρ j = j)
theorem ufO_id : ufO (fun j => j) (fun j => j) := fun j => ⟨Nat.le_refl _, Nat.le_refl _, rfl, rfl, fun _ => rfl⟩
theorem ufO_root {l ρ : Nat → Nat} (h : ufO l ρ) (j : Nat) : l (ρ j) = ρ j := by
  have h1 := (h (ρ j)).1
  have h2 := (h (ρ j)).2.2.1
  have h3 := (h (l (ρ j))).2.1
  have h4 := (h j).2.2.2.1
  omega
theorem ufO_join {l ρ : Nat → Nat} (h : ufO l ρ) {x y : Nat} (hx : ρ x = x) (hy : ρ y = y) (hxy : x ≤ y) : ufO (uN l y x) (fun j => if ρ j = y then x else ρ j) := by
  intro j
  obtain ⟨h1, h2, h3, h4, h5⟩ := h j
  have hxx : (if ρ x = y then x else ρ x) = x := by
    by_cases q : ρ x = y
    · rw [if_pos q]
    · rw [if_neg q, hx]
  refine ⟨?_, ?_, ?_, ?_, ?_⟩
  · by_cases q : j = y
    · rw [q, uN_s]; exact hxy
    · rw [uN_o q]; exact h1
  · dsimp only
    by_cases q : ρ j = y
    · rw [if_pos q]; omega
    · rw [if_neg q]; exact h2
  · dsimp only
    by_cases q : j = y
    · rw [q, uN_s, hxx, if_pos hy]
    · rw [uN_o q, h3]
  · dsimp only
    by_cases q : ρ j = y
    · rw [if_pos q]; exact hxx
    · rw [if_neg q, h4, if_neg q]
  · dsimp only
    by_cases q : j = y
    · rw [q, uN_s, if_pos hy]; exact fun e => e
    · rw [uN_o q]
      intro e
      rw [if_neg (by rw [h5 e]; exact q)]; exact h5 e
def cLk (M : zMem) (n : Nat) (l : Nat → Nat) : Prop := ∀ j, j < n → M 30 j = iI (l j)
theorem c_first {M : zMem} {n k : Nat} {l ρ : Nat → Nat} (hn : n ≤ 384) (hM : M 26 5 = iI n) (hl : cLk M n l) (hu : ufO l ρ) (hk : k < n) : fX5_firstRun (iI k) M = some (iI (ρ k)) := by
  obtain ⟨b, hb, x, rfl⟩ : ∃ b, zlp (zu2 (fX5_firstRun_L4 M)) zfu (iI 0, iI k) = some b ∧ ∃ x, b = (x, iI (ρ k)) := by
    refine zlp_inv (I := fun i p => ∃ at' : Nat, p.1 = iI (i : Int) ∧ p.2 = iI at' ∧ at' + i ≤ k ∧ ρ at' = ρ k) _ k (by omega) ⟨k, rfl, rfl, by omega, rfl⟩ ?_ ?_
    · rintro i ⟨x, y⟩ hi ⟨a, e1, e2, h1, h2⟩
      dsimp only at e1 e2
      rw [e1, e2]
      have g1 := (hu a).1
      by_cases q : l a = a
      · refine Or.inr ⟨(iI (i : Int), iI a), ?_, iI (i : Int), ?_⟩
        · show fX5_firstRun_L4 M (iI i) (iI a) = _
          unfold fX5_firstRun_L4
          rw [hM, fle_n (by omega) (by omega) (by omega), zc_in (by omega) (by omega) (by omega), iI_natN (by omega), hl a (by omega), q, if_pos rfl]
        · rw [← h2, (hu a).2.2.2.2 q]
      · refine Or.inl ⟨(iI ((i + 1 : Nat) : Int), iI (l a)), ?_, l a, rfl, rfl, by omega, by rw [(hu a).2.2.1]; exact h2⟩
        show fX5_firstRun_L4 M (iI i) (iI a) = _
        unfold fX5_firstRun_L4
        rw [hM, fle_n (by omega) (by omega) (by omega), zc_in (by omega) (by omega) (by omega), iI_natN (by omega), hl a (by omega), feq_n (by omega) (by omega) (by omega), zc_in (by omega) (by omega) (by omega), zn_eq, li_1, iI_add]; rfl
    · rintro ⟨x, y⟩ ⟨a, e1, e2, h1, h2⟩
      dsimp only at e1 e2
      rw [e1, e2]
      have g0 : a = 0 := by omega
      have g1 := (hu a).1
      have q : l a = a := by omega
      refine ⟨(iI (k : Int), iI a), ?_, iI (k : Int), ?_⟩
      · show fX5_firstRun_L4 M (iI k) (iI a) = _
        unfold fX5_firstRun_L4
        rw [hM, fle_n (by omega) (by omega) (by omega), zc_in (by omega) (by omega) (by omega), iI_natN (by omega), hl a (by omega), q, if_pos rfl]
      · rw [← h2, (hu a).2.2.2.2 q]
  unfold fX5_firstRun
  rw [li_0, hb, zb1_eq]
/-- joined: what two runs that touch become -/
def jn (ρ : Nat → Nat) (a b : Nat) : Nat → Nat := fun j => if ρ j = (if ρ a ≤ ρ b then ρ b else ρ a) then (if ρ a ≤ ρ b then ρ a else ρ b) else ρ j
theorem jn_ab (ρ : Nat → Nat) (a b : Nat) : jn ρ a b a = jn ρ a b b := by
  unfold jn
  by_cases q : ρ a ≤ ρ b
  · rw [if_pos q, if_pos q, if_pos rfl]
    by_cases e : ρ a = ρ b
    · rw [if_pos e]
    · rw [if_neg e]
  · rw [if_neg q, if_neg q, if_pos rfl]
    by_cases e : ρ b = ρ a
    · rw [if_pos e]
    · rw [if_neg e]
theorem jn_keep {ρ : Nat → Nat} {a b i j : Nat} (h : ρ i = ρ j) : jn ρ a b i = jn ρ a b j := by
  unfold jn; rw [h]
theorem c_join {M : zMem} {n a b : Nat} {l ρ : Nat → Nat} (hn : n ≤ 384) (hM : M 26 5 = iI n) (hl : cLk M n l) (hu : ufO l ρ) (ha : a < n) (hb : b < n) : ∃ l', ufO l' (jn ρ a b) ∧ ∃ M', fX5_join (iI a) (iI b) M = some M' ∧ cLk M' n l' ∧ (∀ c k, c ≠ 30 → M' c k = M c k) ∧ (∀ j, n ≤ j → l j = j → l' j = j) := by
  have a1 := (hu a).2.1
  have b1 := (hu b).2.1
  have ea := c_first hn hM hl hu ha
  have eb := c_first hn hM hl hu hb
  by_cases q : ρ a ≤ ρ b
  · refine ⟨uN l (ρ b) (ρ a), ?_, zwr M 30 (ρ b) (iI (ρ a)), ?_, ?_, ?_, ?_⟩
    · have := ufO_join hu (hu a).2.2.2.1 (hu b).2.2.2.1 q
      unfold jn; rw [if_pos q, if_pos q]; exact this
    · unfold fX5_join zmmax zmmin
      rw [ea, zb1_eq, eb, zb1_eq]
      rcases (show ρ a < ρ b ∨ ρ a = ρ b by omega) with g | g
      · ((simp (disch := omega) only [zn_eq, zj_eq, zb1_eq, zb2_eq, zb3_eq, zbr_l, zbr_r, zc_in, iI_add, iI_sub, iI_mul, iI_neg, iI_lt, iI_le, iI_eq, zwr_zwr, zwa_zwa, zwr_s, zwr_o, zwr_O, zwr_k, zwa_s, zwa_S, zwa_o, zwa_O, upd_s, upd_o, if_true, if_false, if_pos, if_neg, iI_natN, iI_nat, Int.toNat_natCast, c_isRow1, c_isRow0, c_isCard1, c_isCard0, r_within1, r_within0, r_isRow1, r_isRow0, r_isCard1, r_isCard0, c_isAxis1, c_isAxis0, c_isShear1, c_isShear0, r_isAxis1, r_isAxis0, r_isShear1, r_isShear0, zc_cp, li_0, li_1, li_2, li_3, li_4, li_5, li_6, li_7, li_8, li_9, li_10, li_11, li_12, li_15, li_16, li_18, li_22, li_23, li_24, li_28, li_31, li_32, li_33, li_40, li_52, li_53, li_63, li_64, li_85, li_86, li_96, li_99, li_100, li_127, li_128, li_200, li_201, li_384, li_768, li_1023, li_5376, li_6144]); try rfl)
      · rw [g]; ((simp (disch := omega) only [zn_eq, zj_eq, zb1_eq, zb2_eq, zb3_eq, zbr_l, zbr_r, zc_in, iI_add, iI_sub, iI_mul, iI_neg, iI_lt, iI_le, iI_eq, zwr_zwr, zwa_zwa, zwr_s, zwr_o, zwr_O, zwr_k, zwa_s, zwa_S, zwa_o, zwa_O, upd_s, upd_o, if_true, if_false, if_pos, if_neg, iI_natN, iI_nat, Int.toNat_natCast, c_isRow1, c_isRow0, c_isCard1, c_isCard0, r_within1, r_within0, r_isRow1, r_isRow0, r_isCard1, r_isCard0, c_isAxis1, c_isAxis0, c_isShear1, c_isShear0, r_isAxis1, r_isAxis0, r_isShear1, r_isShear0, zc_cp, li_0, li_1, li_2, li_3, li_4, li_5, li_6, li_7, li_8, li_9, li_10, li_11, li_12, li_15, li_16, li_18, li_22, li_23, li_24, li_28, li_31, li_32, li_33, li_40, li_52, li_53, li_63, li_64, li_85, li_86, li_96, li_99, li_100, li_127, li_128, li_200, li_201, li_384, li_768, li_1023, li_5376, li_6144]); try rfl)
    · intro j hj
      by_cases g : j = ρ b
      · rw [g, zwr_s, uN_s]
      · rw [zwr_k g, uN_o g]; exact hl j hj
    · intro c k hc; exact zwr_o hc
    · intro j hj e; rw [uN_o (by omega)]; exact e
  · refine ⟨uN l (ρ a) (ρ b), ?_, zwr M 30 (ρ a) (iI (ρ b)), ?_, ?_, ?_, ?_⟩
    · have := ufO_join hu (hu b).2.2.2.1 (hu a).2.2.2.1 (by omega)
      unfold jn; rw [if_neg q, if_neg q]; exact this
    · unfold fX5_join zmmax zmmin
      rw [ea, zb1_eq, eb, zb1_eq]
      ((simp (disch := omega) only [zn_eq, zj_eq, zb1_eq, zb2_eq, zb3_eq, zbr_l, zbr_r, zc_in, iI_add, iI_sub, iI_mul, iI_neg, iI_lt, iI_le, iI_eq, zwr_zwr, zwa_zwa, zwr_s, zwr_o, zwr_O, zwr_k, zwa_s, zwa_S, zwa_o, zwa_O, upd_s, upd_o, if_true, if_false, if_pos, if_neg, iI_natN, iI_nat, Int.toNat_natCast, c_isRow1, c_isRow0, c_isCard1, c_isCard0, r_within1, r_within0, r_isRow1, r_isRow0, r_isCard1, r_isCard0, c_isAxis1, c_isAxis0, c_isShear1, c_isShear0, r_isAxis1, r_isAxis0, r_isShear1, r_isShear0, zc_cp, li_0, li_1, li_2, li_3, li_4, li_5, li_6, li_7, li_8, li_9, li_10, li_11, li_12, li_15, li_16, li_18, li_22, li_23, li_24, li_28, li_31, li_32, li_33, li_40, li_52, li_53, li_63, li_64, li_85, li_86, li_96, li_99, li_100, li_127, li_128, li_200, li_201, li_384, li_768, li_1023, li_5376, li_6144]); try rfl)
    · intro j hj
      by_cases g : j = ρ a
      · rw [g, zwr_s, uN_s]
      · rw [zwr_k g, uN_o g]; exact hl j hj
    · intro c k hc; exact zwr_o hc
    · intro j hj e; rw [uN_o (by omega)]; exact e
