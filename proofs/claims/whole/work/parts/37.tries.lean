/-! the tries of a search: how many, and which -/
theorem natAbs_iI {s : Int} (h1 : -1000 ≤ s) (h2 : s ≤ 1000) : zmabs (iI s) = iI (s.natAbs : Int) := by
  unfold zmabs
  rcases (show s < 0 ∨ 0 ≤ s by omega) with q | q
  · rw [li_0, fle_n (by omega) (by omega) (by omega), iI_sub]; congr 1; omega
  · rw [li_0, fle_p (by omega) (by omega) (by omega)]; congr 1; omega
theorem r_far {s : Int} (h1 : -1000 ≤ s) (h2 : s ≤ 1000) : fX7_far (iI s) = some (iI (s.natAbs : Int)) := by
  unfold fX7_far
  rcases (show s < 0 ∨ 0 ≤ s by omega) with q | q
  · rw [li_0, fle_n (by omega) (by omega) (by omega), iI_neg]; congr 2; omega
  · rw [li_0, fle_p (by omega) (by omega) (by omega)]; congr 2; omega
def att (T : Nat × (Nat → Int)) (s : Int) : Nat × (Nat → Int) := if (-16 ≤ s ∧ s ≤ 16) ∧ ∀ i, i < T.1 → T.2 i ≠ s then (T.1 + 1, fun i => if i < T.1 then T.2 i else s) else T
def tok (T : Nat × (Nat → Int)) : Prop := T.1 ≤ 33 ∧ (∀ i, i < T.1 → -16 ≤ T.2 i ∧ T.2 i ≤ 16) ∧ ∀ i j, i < j → j < T.1 → T.2 i ≠ T.2 j
theorem tok_lt {T : Nat × (Nat → Int)} {s : Int} (h : tok T) (h1 : -16 ≤ s) (h2 : s ≤ 16) (h3 : ∀ i, i < T.1 → T.2 i ≠ s) : T.1 < 33 := by
  obtain ⟨n, f⟩ := T
  obtain ⟨-, g1, g2⟩ := h
  have := fb_holes 33 (n + 1) (fun i => if i < n then (f i + 16).toNat else (s + 16).toNat) (by
    intro i hi
    by_cases q : i < n
    · rw [if_pos q]; have := g1 i q; dsimp only at this; omega
    · rw [if_neg q]; omega) (by
    intro i j hij hj
    have q : i < n := by omega
    rw [if_pos q]
    have a1 := g1 i q
    dsimp only at a1
    by_cases q2 : j < n
    · rw [if_pos q2]
      have a2 := g1 j q2
      have a3 := g2 i j hij q2
      dsimp only at a2 a3
      omega
    · rw [if_neg q2]
      have a3 := h3 i q
      dsimp only at a3
      omega)
  dsimp only
  omega
theorem att_ok {T : Nat × (Nat → Int)} (h : tok T) (s : Int) : tok (att T s) := by
  unfold att
  by_cases q : (-16 ≤ s ∧ s ≤ 16) ∧ ∀ i, i < T.1 → T.2 i ≠ s
  · rw [if_pos q]
    have hl := tok_lt h q.1.1 q.1.2 q.2
    refine ⟨by show T.1 + 1 ≤ 33; omega, ?_, ?_⟩
    · show ∀ i, i < T.1 + 1 → -16 ≤ (if i < T.1 then T.2 i else s) ∧ (if i < T.1 then T.2 i else s) ≤ 16
      intro i hi
      by_cases e : i < T.1
      · rw [if_pos e]; exact h.2.1 i e
      · rw [if_neg e]; exact q.1
    · show ∀ i j, i < j → j < T.1 + 1 → (if i < T.1 then T.2 i else s) ≠ (if j < T.1 then T.2 j else s)
      intro i j hij hj
      rw [if_pos (by omega)]
      by_cases e : j < T.1
      · rw [if_pos e]; exact h.2.2 i j hij e
      · rw [if_neg e]; exact q.2 i (by omega)
  · rw [if_neg q]; exact h
theorem att_le (T : Nat × (Nat → Int)) (s : Int) : T.1 ≤ (att T s).1 := by
  unfold att
  by_cases q : (-16 ≤ s ∧ s ≤ 16) ∧ ∀ i, i < T.1 → T.2 i ≠ s
  · rw [if_pos q]; show T.1 ≤ T.1 + 1; omega
  · rw [if_neg q]; exact Nat.le_refl _
/-- the better one of two shears -/
def ahd (F : Int → Int32) (s b : Int) : Bool := if F s = F b then (if s.natAbs = b.natAbs then decide (s < b) else decide (s.natAbs < b.natAbs)) else decide (F b < F s)
def bx (F : Int → Int32) (f : Nat → Int) : Nat → Nat
  | 0 => 0
  | n + 1 => if ahd F (f n) (f (bx F f n)) then n else bx F f n
def bst (F : Int → Int32) (T : Nat × (Nat → Int)) : Int := T.2 (bx F T.2 T.1)
theorem ahd_rf (F : Int → Int32) (s : Int) : ahd F s s = false := by
  unfold ahd
  rw [if_pos rfl, if_pos rfl]
  exact decide_eq_false (by omega)
theorem bx_lt (F : Int → Int32) (f : Nat → Int) : ∀ n, 0 < n → bx F f n < n
  | 0, h => absurd h (by omega)
  | 1, _ => by
    show (if ahd F (f 0) (f 0) then 0 else 0) < 1
    rw [ite_self]; omega
  | n + 2, _ => by
    have := bx_lt F f (n + 1) (by omega)
    show (if ahd F (f (n + 1)) (f (bx F f (n + 1))) then n + 1 else bx F f (n + 1)) < n + 2
    by_cases q : ahd F (f (n + 1)) (f (bx F f (n + 1))) = true
    · rw [if_pos q]; omega
    · rw [if_neg q]; omega
theorem bx_cong (F : Int → Int32) (f g : Nat → Int) : ∀ n, (∀ i, i < n → f i = g i) → bx F f n = bx F g n
  | 0, _ => rfl
  | n + 1, h => by
    have h0 := bx_cong F f g n (fun i hi => h i (by omega))
    have h1 : bx F g n < n + 1 := by
      rcases Nat.eq_zero_or_pos n with q | q
      · subst q; exact Nat.one_pos
      · have := bx_lt F g n q; omega
    show (if ahd F (f n) (f (bx F f n)) then n else bx F f n) = (if ahd F (g n) (g (bx F g n)) then n else bx F g n)
    rw [h0, h n (by omega), h _ h1]
theorem bst_in {F : Int → Int32} {T : Nat × (Nat → Int)} (h : tok T) (hn : 0 < T.1) : -16 ≤ bst F T ∧ bst F T ≤ 16 := h.2.1 _ (bx_lt F T.2 T.1 hn)
theorem bst_snoc (F : Int → Int32) (n : Nat) (f : Nat → Int) (s : Int) : bst F (n + 1, fun i => if i < n then f i else s) = if n = 0 then s else if ahd F s (bst F (n, f)) then s else bst F (n, f) := by
  unfold bst
  dsimp only
  rcases Nat.eq_zero_or_pos n with q | q
  · subst q
    rw [if_pos rfl]
    show (if _ < 0 then _ else s) = s
    rw [if_neg (by omega)]
  · rw [if_neg (show ¬ n = 0 by omega)]
    have hc : bx F (fun i => if i < n then f i else s) n = bx F f n := bx_cong F _ _ n (fun i hi => if_pos hi)
    have hl := bx_lt F f n q
    have hb : bx F (fun i => if i < n then f i else s) (n + 1) = if ahd F s (f (bx F f n)) then n else bx F f n := by
      show (if ahd F (if n < n then f n else s) (if bx F (fun i => if i < n then f i else s) n < n then f (bx F (fun i => if i < n then f i else s) n) else s) then n else bx F (fun i => if i < n then f i else s) n) = _
      rw [hc, if_neg (show ¬ n < n by omega), if_pos hl]
    rw [hb]
    by_cases e : ahd F s (f (bx F f n)) = true
    · rw [if_pos e, if_pos e, if_neg (by omega)]
    · rw [if_neg e, if_neg e, if_pos hl]
/-! the class's record of tries -/
def cTr (M : zMem) (F : Int → Int32) (T : Nat × (Nat → Int)) : Prop := M 22 3 = iI T.1 ∧ (∀ i, i < T.1 → M 24 i = iI (T.2 i)) ∧ (∀ i, i < T.1 → M 25 (T.2 i + 16).toNat = 1) ∧ (∀ s : Int, -16 ≤ s → s ≤ 16 → (∀ i, i < T.1 → T.2 i ≠ s) → M 25 (s + 16).toNat = 0) ∧ (0 < T.1 → M 22 4 = iI (bst F T) ∧ M 22 5 = F (bst F T))
def cOt (M M' : zMem) : Prop := ∀ c k, c ≠ 22 → c ≠ 23 → c ≠ 24 → c ≠ 25 → M' c k = M c k
theorem cOt_ag {M M' : zMem} (h : cOt M M') : Ag M M' := fun c k hk => h c k (by intro e; rw [e] at hk; simp [relv] at hk) (by intro e; rw [e] at hk; simp [relv] at hk) (by intro e; rw [e] at hk; simp [relv] at hk) (by intro e; rw [e] at hk; simp [relv] at hk)
theorem c_better {M : zMem} {F : Int → Int32} {s b : Int} (hs : -16 ≤ s ∧ s ≤ 16) (hb : -16 ≤ b ∧ b ≤ 16) (h4 : M 22 4 = iI b) (h5 : M 22 5 = F b) : fX3_isBetter (F s) (iI s) M = some (b2 (ahd F s b)) := by
  unfold fX3_isBetter ahd
  rw [h4, h5, natAbs_iI (by omega) (by omega), natAbs_iI (by omega) (by omega)]
  by_cases q : F s = F b
  · rw [if_pos q, if_pos q]
    by_cases e : s.natAbs = b.natAbs
    · rw [if_pos (by rw [e]), if_pos e]
      rcases (show b ≤ s ∨ s < b by omega) with g | g
      · rw [fle_p (by omega) (by omega) (by omega), decide_eq_false (by omega)]; rfl
      · rw [fle_n (by omega) (by omega) (by omega), decide_eq_true g]; rfl
    · rw [feq_n (by omega) (by omega) (by omega), if_neg e]
      rcases (show b.natAbs ≤ s.natAbs ∨ s.natAbs < b.natAbs by omega) with g | g
      · rw [fle_p (by omega) (by omega) (by omega), decide_eq_false (by omega)]; rfl
      · rw [fle_n (by omega) (by omega) (by omega), decide_eq_true g]; rfl
  · rw [if_neg q, if_neg q]
    by_cases g : F s ≤ F b
    · rw [if_pos g, decide_eq_false (by rw [Int32.le_iff_toInt_le] at g; rw [Int32.lt_iff_toInt_lt]; omega)]; rfl
    · rw [if_neg g, decide_eq_true (by rw [Int32.le_iff_toInt_le] at g; rw [Int32.lt_iff_toInt_lt]; omega)]; rfl
theorem r_ahead {F : Int → Int32} {s b : Int} (hs : -16 ≤ s ∧ s ≤ 16) (hb : -16 ≤ b ∧ b ≤ 16) : fX7_isAhead (iI s) (F s) (iI b) (F b) = some (b2 (ahd F s b)) := by
  unfold fX7_isAhead ahd
  rw [r_far (by omega) (by omega), r_far (by omega) (by omega)]
  by_cases q : F s = F b
  · rw [if_pos q, if_pos q, zb1_eq, zb1_eq, zj_eq]
    by_cases e : s.natAbs = b.natAbs
    · rw [if_pos (by rw [e]), if_pos e]
      rcases (show b ≤ s ∨ s < b by omega) with g | g
      · rw [fle_p (by omega) (by omega) (by omega), decide_eq_false (by omega)]; rfl
      · rw [fle_n (by omega) (by omega) (by omega), decide_eq_true g]; rfl
    · rw [feq_n (by omega) (by omega) (by omega), if_neg e, zb1_eq, zb1_eq]
      rcases (show b.natAbs ≤ s.natAbs ∨ s.natAbs < b.natAbs by omega) with g | g
      · rw [fle_p (by omega) (by omega) (by omega), decide_eq_false (by omega)]; rfl
      · rw [fle_n (by omega) (by omega) (by omega), decide_eq_true g]; rfl
  · rw [if_neg q, if_neg q]
    by_cases g : F s ≤ F b
    · rw [if_pos g, decide_eq_false (by rw [Int32.le_iff_toInt_le] at g; rw [Int32.lt_iff_toInt_lt]; omega)]; rfl
    · rw [if_neg g, decide_eq_true (by rw [Int32.le_iff_toInt_le] at g; rw [Int32.lt_iff_toInt_lt]; omega)]; rfl
def shF' (P : Nat → Nat → Bool) (a w : Nat) (s : Int) : Int32 := iI (shp P a s w)
theorem c_att {M : zMem} {w a : Nat} {P : Nat → Nat → Bool} {T : Nat × (Nat → Int)} {s : Int} (hP : cPg M w P) (ha : a < 2) (hT : tok T) (hM : cTr M (shF' P a w) T) (s1 : -1000 ≤ s) (s2 : s ≤ 1000) : ∃ M', fX3_attemptAt (iI a) (iI s) M = some M' ∧ cTr M' (shF' P a w) (att T s) ∧ cOt M M' := by
  obtain ⟨n, f⟩ := T
  obtain ⟨c1, c2, c3, c4, c5⟩ := hM
  rcases (Classical.em (-16 ≤ s ∧ s ≤ 16)).symm with q | q
  · refine ⟨M, ?_, ?_, fun _ _ _ _ _ _ => rfl⟩
    · ((simp (disch := omega) only [zn_eq, zj_eq, zb1_eq, zb2_eq, zb3_eq, zbr_l, zbr_r, zc_in, iI_add, iI_sub, iI_mul, iI_neg, iI_lt, iI_le, iI_eq, zwr_zwr, zwa_zwa, zwr_s, zwr_o, zwr_O, zwr_k, zwa_s, zwa_S, zwa_o, zwa_O, upd_s, upd_o, if_true, if_false, if_pos, if_neg, iI_natN, iI_nat, Int.toNat_natCast, c_isRow1, c_isRow0, c_isCard1, c_isCard0, r_within1, r_within0, r_isRow1, r_isRow0, r_isCard1, r_isCard0, c_isAxis1, c_isAxis0, c_isShear1, c_isShear0, r_isAxis1, r_isAxis0, r_isShear1, r_isShear0, zc_cp, li_0, li_1, li_2, li_3, li_4, li_5, li_6, li_7, li_8, li_9, li_10, li_11, li_12, li_15, li_16, li_18, li_22, li_23, li_24, li_28, li_31, li_32, li_33, li_40, li_52, li_53, li_63, li_64, li_85, li_86, li_96, li_99, li_100, li_127, li_128, li_200, li_201, li_384, li_768, li_1023, li_5376, li_6144, fX3_attemptAt]); try rfl)
    · unfold att; rw [if_neg (fun h => q h.1)]; exact ⟨c1, c2, c3, c4, c5⟩
  rcases (Classical.em (∀ i, i < n → f i ≠ s)).symm with q2 | q2
  · have : ∃ i, i < n ∧ f i = s := Classical.byContradiction (fun h => q2 (fun i hi e => h ⟨i, hi, e⟩))
    obtain ⟨i, hi, e⟩ := this
    have h1 : M 25 (s + 16).toNat = 1 := by rw [← e]; exact c3 i hi
    refine ⟨M, ?_, ?_, fun _ _ _ _ _ _ => rfl⟩
    · unfold fX3_attemptAt
      rw [c_isShear1 q.1 q.2, zb1_eq, if_neg (by decide), li_16, iI_add, zc_in (by omega) (by omega) (by omega), iI_nat (by omega) (by omega), h1, if_neg (by decide)]
    · unfold att; rw [if_neg (fun h => q2 h.2)]; exact ⟨c1, c2, c3, c4, c5⟩
  have hl : n < 33 := tok_lt hT q.1 q.2 q2
  have h0 : M 25 (s + 16).toNat = 0 := c4 s q.1 q.2 q2
  obtain ⟨M6, e6, g6⟩ := c_sharpness hP ha q.1 q.2
  dsimp only at c1 c2 c3 c4 c5
  obtain ⟨M7, e7, k3, k4, k5, kO⟩ : ∃ M7, (∀ K : zMem → Option zMem, (if M6 22 3 = 0 then (zn (zwr M6 22 5 (iI (shp P a s w))) (fun (M10 : zMem) => zn (zwr M10 22 4 (iI s)) (fun (M11 : zMem) => K M11))) else (zb1 (fX3_isBetter (iI (shp P a s w)) (iI s) M6) (fun (r13 : Int32) => if r13 = 0 then (K M6) else (zn (zwr M6 22 5 (iI (shp P a s w))) (fun (M14 : zMem) => zn (zwr M14 22 4 (iI s)) (fun (M15 : zMem) => K M15)))))) = K M7) ∧ M7 22 3 = iI n ∧ M7 22 4 = iI (bst (shF' P a w) (att (n, f) s)) ∧ M7 22 5 = shF' P a w (bst (shF' P a w) (att (n, f) s)) ∧ ∀ c k, c ≠ 22 → c ≠ 23 → M7 c k = M c k := by
    have hb : bst (shF' P a w) (att (n, f) s) = if n = 0 then s else if ahd (shF' P a w) s (bst (shF' P a w) (n, f)) then s else bst (shF' P a w) (n, f) := by
      unfold att; rw [if_pos ⟨q, q2⟩]; exact bst_snoc _ n f s
    rw [hb]
    have k3 : M6 22 3 = iI n := by rw [g6 22 3 (by decide)]; exact c1
    rcases Nat.eq_zero_or_pos n with z | z
    · refine ⟨zwr (zwr M6 22 5 (iI (shp P a s w))) 22 4 (iI s), fun K => ?_, ?_, ?_, ?_, ?_⟩
      · rw [k3, z]; rfl
      · rw [zwr_k (by decide), zwr_k (by decide)]; exact k3
      · rw [zwr_s, if_pos z]
      · rw [zwr_k (by decide), zwr_s, if_pos z]; rfl
      · intro c k h1 h2; rw [zwr_o h1, zwr_o h1]; exact g6 c k h2
    · have hbi := bst_in (F := shF' P a w) hT z
      have k4 : M6 22 4 = iI (bst (shF' P a w) (n, f)) := by rw [g6 22 4 (by decide)]; exact (c5 z).1
      have k5 : M6 22 5 = shF' P a w (bst (shF' P a w) (n, f)) := by rw [g6 22 5 (by decide)]; exact (c5 z).2
      have eb := c_better q hbi k4 k5
      by_cases hh : ahd (shF' P a w) s (bst (shF' P a w) (n, f)) = true
      · rw [hh] at eb
        refine ⟨zwr (zwr M6 22 5 (iI (shp P a s w))) 22 4 (iI s), fun K => ?_, ?_, ?_, ?_, ?_⟩
        · rw [show iI (shp P a s w) = shF' P a w s from rfl, k3, li_0, feq_n (by omega) (by omega) (by omega), eb, zb1_eq, if_neg (by decide)]; rfl
        · rw [zwr_k (by decide), zwr_k (by decide)]; exact k3
        · rw [zwr_s, if_neg (by omega), if_pos hh]
        · rw [zwr_k (by decide), zwr_s, if_neg (by omega), if_pos hh]; rfl
        · intro c k h1 h2; rw [zwr_o h1, zwr_o h1]; exact g6 c k h2
      · have hh' : ahd (shF' P a w) s (bst (shF' P a w) (n, f)) = false := by cases g : ahd (shF' P a w) s (bst (shF' P a w) (n, f)) with | true => exact absurd g hh | false => rfl
        rw [hh'] at eb
        refine ⟨M6, fun K => ?_, ?_, ?_, ?_, ?_⟩
        · rw [show iI (shp P a s w) = shF' P a w s from rfl, k3, li_0, feq_n (by omega) (by omega) (by omega), eb, zb1_eq, if_pos (by decide)]
        · exact k3
        · rw [if_neg (by omega), if_neg hh]; exact k4
        · rw [if_neg (by omega), if_neg hh]; exact k5
        · intro c k h1 h2; exact g6 c k h2
  obtain ⟨M', eM'⟩ : ∃ M', M' = zwr (zwr (zwr M7 25 (s + 16).toNat 1) 24 n (iI s)) 22 3 (iI (n + 1)) := ⟨_, rfl⟩
  refine ⟨M', ?_, ?_, ?_⟩
  · unfold fX3_attemptAt
    rw [c_isShear1 q.1 q.2, zb1_eq, if_neg (by decide), li_16, iI_add, zc_in (by omega) (by omega) (by omega), iI_nat (by omega) (by omega), h0, if_pos rfl, c1, li_33, flt_p (by omega) (by omega) (by omega), e6, zb2_eq, zj_eq, e7, zc_in (by omega) (by omega) (by omega), zn_eq, nar1, zwr_o (by decide), k3, zc_in (by omega) (by omega) (by omega), zn_eq, iI_natN (by omega), zn_eq, zwr_o (by decide), zwr_o (by decide), k3, li_1, iI_add, eM']
    rfl
  · have hat : att (n, f) s = (n + 1, fun i => if i < n then f i else s) := by unfold att; rw [if_pos ⟨q, q2⟩]
    refine ⟨?_, ?_, ?_, ?_, ?_⟩
    · rw [eM', zwr_s, hat]; rfl
    · rw [hat]
      show ∀ i, i < n + 1 → M' 24 i = iI (if i < n then f i else s)
      intro i hi
      rw [eM', zwr_o (by decide)]
      by_cases e : i = n
      · rw [e, zwr_s, if_neg (by omega)]
      · rw [zwr_k e, zwr_o (by decide), kO _ _ (by decide) (by decide), if_pos (by omega)]; exact c2 i (by omega)
    · rw [hat]
      show ∀ i, i < n + 1 → M' 25 ((if i < n then f i else s) + 16).toNat = 1
      intro i hi
      rw [eM', zwr_o (by decide), zwr_o (by decide)]
      by_cases e : i = n
      · rw [if_neg (by omega), zwr_s]
      · rw [if_pos (by omega)]
        have h1 := q2 i (by omega)
        have h2 := hT.2.1 i (by show i < n; omega)
        dsimp only at h2
        rw [zwr_k (by omega), kO _ _ (by decide) (by decide)]; exact c3 i (by omega)
    · rw [hat]
      show ∀ s' : Int, -16 ≤ s' → s' ≤ 16 → (∀ i, i < n + 1 → (if i < n then f i else s) ≠ s') → M' 25 (s' + 16).toNat = 0
      intro s' b1 b2 h
      rw [eM', zwr_o (by decide), zwr_o (by decide)]
      have h1 := h n (by omega)
      rw [if_neg (by omega)] at h1
      rw [zwr_k (by omega), kO _ _ (by decide) (by decide)]
      refine c4 s' b1 b2 (fun i hi => ?_)
      have := h i (by omega)
      rw [if_pos hi] at this
      exact this
    · intro _
      rw [eM', zwr_k (by decide), zwr_k (by decide), zwr_o (by decide), zwr_o (by decide), zwr_o (by decide), zwr_o (by decide)]
      exact ⟨k4, k5⟩
  · intro c k h1 h2 h3 h4
    rw [eM', zwr_o h1, zwr_o h3, zwr_o h4]
    exact kO c k h1 h2
