/-! the reference's record of tries; the searches -/
def rTr (M : zMem) (F : Int → Int32) (T : Nat × (Nat → Int)) : Prop := M 60 7 = iI T.1 ∧ ∀ i, i < T.1 → M 66 i = iI (T.2 i) ∧ M 67 i = F (T.2 i)
def rOt (M M' : zMem) : Prop := ∀ c k, (c ≠ 60 ∨ k ≠ 7) → c ≠ 65 → c ≠ 66 → c ≠ 67 → M' c k = M c k
theorem rOt_ag {M M' : zMem} (h : rOt M M') : Ag M M' := fun c k hk => h c k (by rcases Classical.em (c = 60 ∧ k = 7) with ⟨e1, e2⟩ | e; (rw [e1, e2] at hk; simp [relv] at hk); omega) (by intro e; rw [e] at hk; simp [relv] at hk) (by intro e; rw [e] at hk; simp [relv] at hk) (by intro e; rw [e] at hk; simp [relv] at hk)
theorem r_seen {M : zMem} {F : Int → Int32} {n : Nat} {f : Nat → Int} {s : Int} (hM : rTr M F (n, f)) (hT : tok (n, f)) (s1 : -1000 ≤ s) (s2 : s ≤ 1000) (b : Bool) : zlp (zu2 (fX7_tryIt_L8 (iI s) M)) zfu (iI 0, b2 b) = some (iI n, b2 (b && decide (∀ i, i < n → f i ≠ s))) := by
  have hn : n ≤ 33 := hT.1
  refine zlp_seq (S := fun j => (iI (j : Int), b2 (b && decide (∀ i, i < j → f i ≠ s)))) _ n (by omega) ?_ (fun j hj => ?_) ?_
  · have h0 : ∀ j, j = 0 → b2 b = b2 (b && decide (∀ i, i < j → f i ≠ s)) := fun j hj => by rw [decide_eq_true (fun i hi => absurd hi (by omega)), Bool.and_true]
    exact Prod.ext rfl (h0 0 rfl)
  · show fX7_tryIt_L8 (iI s) M (iI (j : Int)) (b2 (b && decide (∀ i, i < j → f i ≠ s))) = _
    have hr := hT.2.1 j hj
    dsimp only at hr
    unfold fX7_tryIt_L8
    rw [hM.1, fle_n (by omega) (by omega) (by omega), zj_eq, li_1, iI_add]
    by_cases q : (b && decide (∀ i, i < j → f i ≠ s)) = true
    · rw [q, if_neg (by decide), zc_in (by omega) (by omega) (by omega), iI_natN (by omega), (hM.2 j hj).1]
      rw [Bool.and_eq_true, decide_eq_true_iff] at q
      rw [q.1]
      dsimp only
      by_cases e : f j = s
      · rw [if_pos (by rw [e]), decide_eq_false (p := ∀ i, i < j + 1 → f i ≠ s) (fun h => h j (by omega) e)]; rfl
      · rw [feq_n (by omega) (by omega) (by omega), decide_eq_true (p := ∀ i, i < j + 1 → f i ≠ s) (fun i hi => by
          rcases (show i < j ∨ i = j by omega) with g | g
          · exact q.2 i g
          · rw [g]; exact e)]; rfl
    · have q' : (b && decide (∀ i, i < j → f i ≠ s)) = false := by cases h : (b && decide (∀ i, i < j → f i ≠ s)) with | true => exact absurd h q | false => rfl
      have q3 : (b && decide (∀ i, i < j + 1 → f i ≠ s)) = false := by
        rw [Bool.and_eq_false_iff] at q' ⊢
        rcases q' with g | g
        · exact Or.inl g
        · right
          rw [decide_eq_false_iff_not] at g ⊢
          exact fun h => g (fun i hi => h i (by omega))
      dsimp only
      rw [q', q3, if_pos (by decide)]; rfl
  · show fX7_tryIt_L8 (iI s) M (iI (n : Int)) (b2 (b && decide (∀ i, i < n → f i ≠ s))) = _
    unfold fX7_tryIt_L8
    rw [hM.1, fle_p (by omega) (by omega) (by omega)]
theorem r_shearB {s : Int} (s1 : -1000 ≤ s) (s2 : s ≤ 1000) : fX7_isShear (iI s) = some (b2 (decide (-16 ≤ s ∧ s ≤ 16))) := by
  by_cases q : -16 ≤ s ∧ s ≤ 16
  · rw [r_isShear1 q.1 q.2, decide_eq_true q]; rfl
  · rw [r_isShear0 q (by omega) (by omega), decide_eq_false q]; rfl
theorem r_att {M : zMem} {w a : Nat} {P : Nat → Nat → Bool} {T : Nat × (Nat → Int)} {s : Int} (hP : rPg M w P) (ha : a < 2) (hT : tok T) (hM : rTr M (shF' P a w) T) (s1 : -1000 ≤ s) (s2 : s ≤ 1000) : ∃ M', fX7_tryIt (iI a) (iI s) M = some M' ∧ rTr M' (shF' P a w) (att T s) ∧ rOt M M' := by
  obtain ⟨n, f⟩ := T
  have hl0 := r_seen hM hT s1 s2 (decide (-16 ≤ s ∧ s ≤ 16))
  have hM' := hM
  obtain ⟨c1, c2⟩ := hM
  dsimp only at c1 c2
  rcases (Classical.em ((-16 ≤ s ∧ s ≤ 16) ∧ ∀ i, i < n → f i ≠ s)).symm with q | q
  · refine ⟨M, ?_, ?_, fun _ _ _ _ _ _ => rfl⟩
    · unfold fX7_tryIt
      rw [r_shearB s1 s2, zb1_eq, li_0, hl0, zb1_eq]
      show zj _ _ = _
      dsimp only
      have : (decide (-16 ≤ s ∧ s ≤ 16) && decide (∀ i, i < n → f i ≠ s)) = false := by
        rw [Bool.and_eq_false_iff, decide_eq_false_iff_not, decide_eq_false_iff_not]
        by_cases h : -16 ≤ s ∧ s ≤ 16
        · exact Or.inr (fun g => q ⟨h, g⟩)
        · exact Or.inl h
      rw [this, zj_eq, if_pos (by decide)]
    · unfold att; rw [if_neg q]; exact ⟨c1, c2⟩
  have hl : n < 33 := tok_lt hT q.1.1 q.1.2 q.2
  obtain ⟨M5, eM5⟩ : ∃ M5, M5 = zwr M 66 n (iI s) := ⟨_, rfl⟩
  have hP5 : rPg M5 w P := rPg_ag hP (fun c k hk => by rw [eM5]; exact zwr_o (by intro e; rw [e] at hk; simp [relv] at hk))
  obtain ⟨M6, e6, g6⟩ := r_sharpness hP5 ha q.1.1 q.1.2
  have k7 : M5 60 7 = iI n := by rw [eM5, zwr_o (by decide)]; exact c1
  have k8 : M6 60 7 = iI n := by rw [g6 _ _ (by decide)]; exact k7
  obtain ⟨M', eM'⟩ : ∃ M', M' = zwr (zwr M6 67 n (iI (shp P a s w))) 60 7 (iI (n + 1)) := ⟨_, rfl⟩
  have hat : att (n, f) s = (n + 1, fun i => if i < n then f i else s) := by unfold att; rw [if_pos q]
  refine ⟨M', ?_, ?_, ?_⟩
  · unfold fX7_tryIt
    rw [r_shearB s1 s2, zb1_eq, li_0, hl0, zb1_eq]
    show zj _ _ = _
    dsimp only
    rw [decide_eq_true q.1, decide_eq_true q.2, zj_eq, if_neg (by decide), c1, zc_in (by omega) (by omega) (by omega), zn_eq, iI_natN (by omega), ← eM5, e6, zb2_eq, k7, zc_in (by omega) (by omega) (by omega), zn_eq, iI_natN (by omega), zn_eq, zwr_o (by decide), k8, li_1, iI_add, eM']
  · rw [hat]
    refine ⟨?_, ?_⟩
    · rw [eM', zwr_s]; rfl
    · show ∀ i, i < n + 1 → M' 66 i = iI (if i < n then f i else s) ∧ M' 67 i = shF' P a w (if i < n then f i else s)
      intro i hi
      rw [eM', zwr_o (by decide), zwr_o (by decide), zwr_o (by decide), g6 _ _ (by decide), eM5]
      by_cases e : i = n
      · rw [e, zwr_s, zwr_s, if_neg (by omega)]; exact ⟨rfl, rfl⟩
      · rw [zwr_k e, zwr_k e, g6 _ _ (by decide), eM5, zwr_o (by decide), if_pos (by omega)]; exact c2 i (by omega)
  · intro c k h1 h2 h3 h4
    rw [eM']
    rcases Classical.em (c = 60) with e | e
    · subst e
      rw [zwr_k (by omega), zwr_o (by decide), g6 _ _ (by decide), eM5, zwr_o (by decide)]
    · rw [zwr_o e, zwr_o h4, g6 _ _ h2, eM5, zwr_o h3]
theorem r_best {M : zMem} {F : Int → Int32} {T : Nat × (Nat → Int)} (hT : tok T) (hM : rTr M F T) (hn : 0 < T.1) : fX7_bestTried M = some (iI (bst F T)) := by
  obtain ⟨n, f⟩ := T
  obtain ⟨c1, c2⟩ := hM
  dsimp only at c1 c2 hn
  have hn33 : n ≤ 33 := hT.1
  have hl : zlp (zu2 (fX7_bestTried_L4 M)) zfu (iI 1, iI 0) = some (iI n, iI (bx F f n)) := by
    obtain ⟨m, rfl⟩ : ∃ m, n = m + 1 := ⟨n - 1, by omega⟩
    refine zlp_seq (S := fun j => (iI ((j : Int) + 1), iI (bx F f (j + 1)))) _ m (by omega) ?_ (fun j hj => ?_) ?_
    · show _ = (iI (((0 : Nat) : Int) + 1), iI ((if ahd F (f 0) (f 0) then 0 else 0 : Nat) : Int))
      rw [ite_self]; rfl
    · show fX7_bestTried_L4 M (iI ((j : Int) + 1)) _ = _
      have hb := bx_lt F f (j + 1) (by omega)
      have r1 := hT.2.1 (j + 1) (by show j + 1 < m + 1; omega)
      have r2 := hT.2.1 (bx F f (j + 1)) (by show bx F f (j + 1) < m + 1; omega)
      dsimp only at r1 r2
      unfold fX7_bestTried_L4
      rw [c1, fle_n (by omega) (by omega) (by omega), zc_in (by omega) (by omega) (by omega), zc_in (by omega) (by omega) (by omega), zc_in (by omega) (by omega) (by omega), zc_in (by omega) (by omega) (by omega), iI_nat (by omega) (by omega), iI_natN (by omega), show ((j : Int) + 1).toNat = j + 1 by omega, (c2 (j + 1) (by omega)).1, (c2 (j + 1) (by omega)).2, (c2 (bx F f (j + 1)) (by omega)).1, (c2 (bx F f (j + 1)) (by omega)).2, r_ahead r1 r2, zb1_eq, zn_eq, li_1, iI_add]
      show _ = some (Sum.inl (iI (((j + 1 : Nat) : Int) + 1), iI ((if ahd F (f (j + 1)) (f (bx F f (j + 1))) then j + 1 else bx F f (j + 1) : Nat) : Int)))
      cases ahd F (f (j + 1)) (f (bx F f (j + 1))) <;> rfl
    · show fX7_bestTried_L4 M (iI ((m : Int) + 1)) _ = _
      unfold fX7_bestTried_L4
      rw [c1, fle_p (by omega) (by omega) (by omega)]; rfl
  have hb := bx_lt F f n hn
  unfold fX7_bestTried
  rw [li_0, li_1, hl, zb1_eq]
  show zc _ _ = _
  rw [zc_in (by omega) (by omega) (by omega), iI_natN (by omega), (c2 _ hb).1]; rfl
/-! the two courses -/
def sq0 : Nat × (Nat → Int) := (0, fun _ => 0)
def sqA : Nat → Nat × (Nat → Int)
  | 0 => sq0
  | j + 1 => att (sqA j) ((j : Int) - 16)
def sq5 : Nat → Nat × (Nat → Int)
  | 0 => sq0
  | j + 1 => att (sq5 j) (8 * (j : Int) - 16)
def stp (F : Int → Int32) (T : Nat × (Nat → Int)) (d : Int) : Nat × (Nat → Int) := att (att T (bst F T - d)) (bst F T + d)
def dd : Nat → Int
  | 0 => 4
  | 1 => 2
  | 2 => 1
  | _ => 0
def srT (F : Int → Int32) : Nat → Nat × (Nat → Int)
  | 0 => sq5 5
  | j + 1 => stp F (srT F j) (dd j)
theorem sq0_ok : tok sq0 := ⟨by decide, fun i hi => absurd hi (Nat.not_lt_zero i), fun i j _ hj => absurd hj (Nat.not_lt_zero j)⟩
theorem sqA_ok : ∀ j, tok (sqA j)
  | 0 => sq0_ok
  | j + 1 => att_ok (sqA_ok j) _
theorem sq5_ok : ∀ j, tok (sq5 j)
  | 0 => sq0_ok
  | j + 1 => att_ok (sq5_ok j) _
theorem stp_ok {F : Int → Int32} {T : Nat × (Nat → Int)} (h : tok T) (d : Int) : tok (stp F T d) := att_ok (att_ok h _) _
theorem srT_ok (F : Int → Int32) : ∀ j, tok (srT F j)
  | 0 => sq5_ok 5
  | j + 1 => stp_ok (srT_ok F j) _
theorem att_1 : (att sq0 (-16)).1 = 1 := rfl
theorem sqA_pos : ∀ j, 0 < (sqA (j + 1)).1
  | 0 => Nat.lt_of_lt_of_eq Nat.one_pos att_1.symm
  | j + 1 => Nat.lt_of_lt_of_le (sqA_pos j) (att_le _ _)
theorem sq5_pos : ∀ j, 0 < (sq5 (j + 1)).1
  | 0 => Nat.lt_of_lt_of_eq Nat.one_pos att_1.symm
  | j + 1 => Nat.lt_of_lt_of_le (sq5_pos j) (att_le _ _)
theorem srT_pos (F : Int → Int32) : ∀ j, 0 < (srT F j).1
  | 0 => sq5_pos 4
  | j + 1 => Nat.lt_of_lt_of_le (Nat.lt_of_lt_of_le (srT_pos F j) (att_le _ _)) (att_le _ _)
theorem cOt_rf {M : zMem} : cOt M M := fun _ _ _ _ _ _ => rfl
theorem cOt_tr {M M' M'' : zMem} (h1 : cOt M M') (h2 : cOt M' M'') : cOt M M'' := fun c k a b d e => (h2 c k a b d e).trans (h1 c k a b d e)
theorem rOt_rf {M : zMem} : rOt M M := fun _ _ _ _ _ _ => rfl
theorem rOt_tr {M M' M'' : zMem} (h1 : rOt M M') (h2 : rOt M' M'') : rOt M M'' := fun c k a b d e => (h2 c k a b d e).trans (h1 c k a b d e)
theorem c_begin {M : zMem} (F : Int → Int32) : ∃ M', fX3_begin M = some M' ∧ cTr M' F sq0 ∧ cOt M M' := by
  have hl0 := lp_wr (body := zu2 fX3_begin_L7) 33 0 25 (fun _ => 0) (zwr M 22 3 (iI 0)) (by omega) (fun i hi Mi eMi => by
    show fX3_begin_L7 (iI i) Mi = _
    unfold fX3_begin_L7
    rw [li_33, fle_n (by omega) (by omega) (by omega), zc_in (by omega) (by omega) (by omega), zn_eq, iI_natN (by omega), nar0, li_1, iI_add, show 0 + i = i by omega]; rfl) (fun Mi eMi => by
    show fX3_begin_L7 (iI ((33 : Nat) : Int)) Mi = _
    unfold fX3_begin_L7
    rw [li_33, fle_p (by omega) (by omega) (by omega)])
  refine ⟨zwa (zwr M 22 3 (iI 0)) 25 (fun y => if 0 ≤ y ∧ y < 0 + 33 then 0 else zwr M 22 3 (iI 0) 25 y), by unfold fX3_begin; rw [zn_eq, li_0, hl0, zb1_eq]; rfl, ⟨?_, fun i hi => absurd hi (Nat.not_lt_zero i), fun i hi => absurd hi (Nat.not_lt_zero i), fun s s1 s2 _ => ?_, fun h => absurd h (Nat.lt_irrefl 0)⟩, ?_⟩
  · rw [zwa_o (by decide), zwr_s]; rfl
  · rw [zwa_s, if_pos (by omega)]
  · intro c k h1 h2 h3 h4
    rw [zwa_o h4, zwr_o h1]
theorem c_tryAll {M : zMem} {w a : Nat} {P : Nat → Nat → Bool} (hP : cPg M w P) (ha : a < 2) : ∃ M', fX3_tryAll (iI a) M = some M' ∧ cTr M' (shF' P a w) (sqA 33) ∧ cOt M M' := by
  obtain ⟨M1, e1, t1, o1⟩ := c_begin (M := M) (shF' P a w)
  obtain ⟨b, hb, x, M', rfl, t2, o2⟩ : ∃ b, zlp (zu2 (fX3_tryAll_L7 (iI a))) zfu (iI (-16), M1) = some b ∧ ∃ x M', b = (x, M') ∧ cTr M' (shF' P a w) (sqA 33) ∧ cOt M M' := by
    refine zlp_inv (I := fun j p => p.1 = iI ((j : Int) - 16) ∧ cTr p.2 (shF' P a w) (sqA j) ∧ cOt M p.2) _ 33 (by omega) ⟨rfl, t1, o1⟩ ?_ ?_
    · rintro j ⟨x, M2⟩ hj ⟨e, t, o⟩
      dsimp only at e t o
      obtain ⟨M3, e3, t3, o3⟩ := c_att (cPg_ag hP (cOt_ag o)) ha (sqA_ok j) t (by omega) (by omega) (s := (j : Int) - 16)
      refine Or.inl ⟨(iI (((j + 1 : Nat) : Int) - 16), M3), ?_, rfl, t3, cOt_tr o o3⟩
      show fX3_tryAll_L7 (iI a) x M2 = _
      unfold fX3_tryAll_L7
      rw [e, li_16, flt_n (by omega) (by omega) (by omega), e3, zb1_eq, li_1, iI_add, show ((j + 1 : Nat) : Int) - 16 = (j : Int) - 16 + 1 by omega]
    · rintro ⟨x, M2⟩ ⟨e, t, o⟩
      dsimp only at e t o
      refine ⟨(x, M2), ?_, x, M2, rfl, t, o⟩
      show fX3_tryAll_L7 (iI a) x M2 = _
      unfold fX3_tryAll_L7
      rw [e, li_16, flt_p (by omega) (by omega) (by omega)]
  refine ⟨M', ?_, t2, o2⟩
  unfold fX3_tryAll
  rw [e1, zb1_eq, show (-16 : Int32) = iI (-16) from rfl, hb, zb1_eq]
theorem c_search {M : zMem} {w a : Nat} {P : Nat → Nat → Bool} (hP : cPg M w P) (ha : a < 2) : ∃ M', fX3_search (iI a) M = some M' ∧ cTr M' (shF' P a w) (srT (shF' P a w) 3) ∧ cOt M M' := by
  obtain ⟨M1, e1, t1, o1⟩ := c_begin (M := M) (shF' P a w)
  obtain ⟨b, hb, x, M', rfl, t2, o2⟩ : ∃ b, zlp (zu2 (fX3_search_L7 (iI a))) zfu (iI (-16), M1) = some b ∧ ∃ x M', b = (x, M') ∧ cTr M' (shF' P a w) (sq5 5) ∧ cOt M M' := by
    refine zlp_inv (I := fun j p => p.1 = iI (8 * (j : Int) - 16) ∧ cTr p.2 (shF' P a w) (sq5 j) ∧ cOt M p.2) _ 5 (by omega) ⟨rfl, t1, o1⟩ ?_ ?_
    · rintro j ⟨x, M2⟩ hj ⟨e, t, o⟩
      dsimp only at e t o
      obtain ⟨M3, e3, t3, o3⟩ := c_att (cPg_ag hP (cOt_ag o)) ha (sq5_ok j) t (by omega) (by omega) (s := 8 * (j : Int) - 16)
      refine Or.inl ⟨(iI (8 * ((j + 1 : Nat) : Int) - 16), M3), ?_, rfl, t3, cOt_tr o o3⟩
      show fX3_search_L7 (iI a) x M2 = _
      unfold fX3_search_L7
      rw [e, li_16, flt_n (by omega) (by omega) (by omega), e3, zb1_eq, li_8, iI_add, show 8 * ((j + 1 : Nat) : Int) - 16 = 8 * (j : Int) - 16 + 8 by omega]
    · rintro ⟨x, M2⟩ ⟨e, t, o⟩
      dsimp only at e t o
      refine ⟨(x, M2), ?_, x, M2, rfl, t, o⟩
      show fX3_search_L7 (iI a) x M2 = _
      unfold fX3_search_L7
      rw [e, li_16, flt_p (by omega) (by omega) (by omega)]
  obtain ⟨b, hb', x', M'', rfl, t3, o3⟩ : ∃ b, zlp (zu2 (fX3_search_L28 (iI a))) zfu (iI 4, M') = some b ∧ ∃ x M'', b = (x, M'') ∧ cTr M'' (shF' P a w) (srT (shF' P a w) 3) ∧ cOt M M'' := by
    refine zlp_inv (I := fun j p => p.1 = iI (dd j) ∧ cTr p.2 (shF' P a w) (srT (shF' P a w) j) ∧ cOt M p.2) _ 3 (by omega) ⟨rfl, t2, o2⟩ ?_ ?_
    · rintro j ⟨x, M2⟩ hj ⟨e, t, o⟩
      dsimp only at e t o
      have hd : 1 ≤ dd j ∧ dd j ≤ 4 ∧ iI (dd j) / 2 = iI (dd (j + 1)) := by
        rcases (show j = 0 ∨ j = 1 ∨ j = 2 by omega) with rfl | rfl | rfl <;> decide
      have hbi := bst_in (F := shF' P a w) (srT_ok (shF' P a w) j) (srT_pos _ j)
      obtain ⟨M3, e3, t3, o3⟩ := c_att (cPg_ag hP (cOt_ag o)) ha (srT_ok (shF' P a w) j) t (by omega) (by omega) (s := bst (shF' P a w) (srT (shF' P a w) j) - dd j)
      obtain ⟨M4, e4, t4, o4⟩ := c_att (cPg_ag hP (cOt_ag (cOt_tr o o3))) ha (att_ok (srT_ok (shF' P a w) j) _) t3 (by omega) (by omega) (s := bst (shF' P a w) (srT (shF' P a w) j) + dd j)
      refine Or.inl ⟨(iI (dd (j + 1)), M4), ?_, rfl, t4, cOt_tr o (cOt_tr o3 o4)⟩
      show fX3_search_L28 (iI a) x M2 = _
      unfold fX3_search_L28
      rw [e, li_1, flt_n (by omega) (by omega) (by omega), zn_eq, (t.2.2.2.2 (srT_pos _ j)).1, iI_sub, e3, zb1_eq, iI_add, e4, zb1_eq, zn_eq, hd.2.2]
    · rintro ⟨x, M2⟩ ⟨e, t, o⟩
      dsimp only at e t o
      refine ⟨(x, M2), ?_, x, M2, rfl, t, o⟩
      show fX3_search_L28 (iI a) x M2 = _
      unfold fX3_search_L28
      rw [e]; rfl
  refine ⟨M'', ?_, t3, o3⟩
  unfold fX3_search
  rw [e1, zb1_eq, show (-16 : Int32) = iI (-16) from rfl, hb, zb1_eq]
  show zb1 (zlp (zu2 (fX3_search_L28 (iI a))) zfu (iI 4, M')) _ = _
  rw [hb', zb1_eq]
