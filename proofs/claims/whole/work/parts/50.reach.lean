/-! how far a chain of feet goes on -/
def mx3 (f : Nat → Nat) (r : Nat) : Nat := max (max (f (r + 1)) (f r)) (if r = 0 then 0 else f (r - 1))
def rd (P : Nat → Nat → Bool) (w : Nat) : Nat → Nat → Nat
  | 0, _ => 0
  | d + 1, r => if ft P (w - (d + 1)) r = true then 1 + mx3 (rd P w d) r else 0
def rc (P : Nat → Nat → Bool) (w k r : Nat) : Nat := rd P w (w - k) r
theorem rc_out {P : Nat → Nat → Bool} {w k r : Nat} (h : w ≤ k) : rc P w k r = 0 := by
  unfold rc; rw [show w - k = 0 by omega]; rfl
theorem rc_in {P : Nat → Nat → Bool} {w k : Nat} (r : Nat) (h : k < w) : rc P w k r = if ft P k r = true then 1 + mx3 (rc P w (k + 1)) r else 0 := by
  unfold rc
  obtain ⟨d, hd⟩ : ∃ d, w - k = d + 1 := ⟨w - k - 1, by omega⟩
  rw [hd, show w - (k + 1) = d by omega]
  show (if ft P (w - (d + 1)) r = true then 1 + mx3 (rd P w d) r else 0) = _
  rw [show w - (d + 1) = k by omega]
theorem rd_le (P : Nat → Nat → Bool) (w : Nat) : ∀ d r, rd P w d r ≤ d
  | 0, _ => Nat.le_refl _
  | d + 1, r => by
    show (if ft P (w - (d + 1)) r = true then 1 + mx3 (rd P w d) r else 0) ≤ d + 1
    by_cases q : ft P (w - (d + 1)) r = true
    · rw [if_pos q]
      have h1 := rd_le P w d (r + 1)
      have h2 := rd_le P w d r
      have h3 := rd_le P w d (r - 1)
      unfold mx3
      by_cases g : r = 0
      · rw [if_pos g]; omega
      · rw [if_neg g]; omega
    · rw [if_neg q]; omega
theorem rc_le (P : Nat → Nat → Bool) (w k r : Nat) : rc P w k r ≤ w - k := rd_le P w _ r
theorem rc_32 {P : Nat → Nat → Bool} {w : Nat} (hP : ∀ k r, P k r = true → k < w ∧ r < 32) {k r : Nat} (hr : 32 ≤ r) : rc P w k r = 0 := by
  by_cases h : k < w
  · rw [rc_in r h, if_neg]
    unfold ft
    cases e : P k r with
    | false => rw [Bool.false_and]; decide
    | true => have := (hP k r e).2; omega
  · exact rc_out (by omega)
/-- at a row that may be off the page -/
def rcI (P : Nat → Nat → Bool) (w k : Nat) (z : Int) : Nat := if 0 ≤ z ∧ z < 32 then rc P w k z.toNat else 0
theorem rcI_n {P : Nat → Nat → Bool} {w k r : Nat} (hr : r < 32) : rcI P w k (r : Int) = rc P w k r := by
  unfold rcI; rw [if_pos (by omega)]; rfl
/-- the lowest row of the longest way on -/
def lo2 (P : Nat → Nat → Bool) (w k : Nat) (r : Int) : Int := if rcI P w k (r + 1) < rcI P w k r then r else r + 1
def lo (P : Nat → Nat → Bool) (w k : Nat) (r : Int) : Int := if rcI P w k (lo2 P w k r) < rcI P w k (r - 1) then r - 1 else lo2 P w k r
theorem lo_bd (P : Nat → Nat → Bool) (w k : Nat) (r : Int) : r - 1 ≤ lo P w k r ∧ lo P w k r ≤ r + 1 := by
  unfold lo lo2
  by_cases q1 : rcI P w k (r + 1) < rcI P w k r
  · rw [if_pos q1]
    by_cases q2 : rcI P w k r < rcI P w k (r - 1)
    · rw [if_pos q2]; omega
    · rw [if_neg q2]; omega
  · rw [if_neg q1]
    by_cases q2 : rcI P w k (r + 1) < rcI P w k (r - 1)
    · rw [if_pos q2]; omega
    · rw [if_neg q2]; omega
/-- what the lowest way on has, and that it is the lowest -/
theorem lo_sp (P : Nat → Nat → Bool) (w k : Nat) (r : Int) : rcI P w k (r + 1) ≤ rcI P w k (lo P w k r) ∧ rcI P w k r ≤ rcI P w k (lo P w k r) ∧ rcI P w k (r - 1) ≤ rcI P w k (lo P w k r) ∧ (∀ z, lo P w k r < z → z ≤ r + 1 → rcI P w k z < rcI P w k (lo P w k r)) := by
  unfold lo lo2
  by_cases q1 : rcI P w k (r + 1) < rcI P w k r
  · rw [if_pos q1]
    by_cases q2 : rcI P w k r < rcI P w k (r - 1)
    · rw [if_pos q2]
      refine ⟨by omega, by omega, by omega, fun z h1 h2 => ?_⟩
      rcases (show z = r ∨ z = r + 1 by omega) with rfl | rfl <;> omega
    · rw [if_neg q2]
      refine ⟨by omega, by omega, by omega, fun z h1 h2 => ?_⟩
      have : z = r + 1 := by omega
      subst this; omega
  · rw [if_neg q1]
    by_cases q2 : rcI P w k (r + 1) < rcI P w k (r - 1)
    · rw [if_pos q2]
      refine ⟨by omega, by omega, by omega, fun z h1 h2 => ?_⟩
      rcases (show z = r ∨ z = r + 1 by omega) with rfl | rfl <;> omega
    · rw [if_neg q2]
      exact ⟨by omega, by omega, by omega, fun z h1 h2 => by omega⟩
theorem lo_mx {P : Nat → Nat → Bool} {w : Nat} (hP : ∀ k r, P k r = true → k < w ∧ r < 32) (k r : Nat) (hr : r < 32) : rcI P w k (lo P w k (r : Int)) = mx3 (rc P w k) r := by
  have h := lo_sp P w k (r : Int)
  have hb := lo_bd P w k (r : Int)
  have e1 : rcI P w k ((r : Int) + 1) = rc P w k (r + 1) := by
    by_cases q : r + 1 < 32
    · have := rcI_n (P := P) (w := w) (k := k) q
      rw [← this]; rfl
    · rw [rc_32 hP (by omega)]; unfold rcI; rw [if_neg (by omega)]
  have e2 : rcI P w k (r : Int) = rc P w k r := rcI_n hr
  have e3 : rcI P w k ((r : Int) - 1) = if r = 0 then 0 else rc P w k (r - 1) := by
    by_cases q : r = 0
    · rw [if_pos q]; unfold rcI; rw [if_neg (by omega)]
    · rw [if_neg q]
      have := rcI_n (P := P) (w := w) (k := k) (show r - 1 < 32 by omega)
      rw [← this]; congr 1; omega
  unfold mx3
  rw [← e3, ← e1, ← e2]
  rcases (show lo P w k (r : Int) = (r : Int) + 1 ∨ lo P w k (r : Int) = (r : Int) ∨ lo P w k (r : Int) = (r : Int) - 1 by omega) with e | e | e
  · rw [e] at h ⊢; omega
  · rw [e] at h ⊢; omega
  · rw [e] at h ⊢; omega
/-! the class -/
def cRc (P : Nat → Nat → Bool) (w : Nat) (M : zMem) (k0 : Nat) : Prop := M 32 2 = iI w ∧ ∀ k, k0 ≤ k → k < w → ∀ r, r < 32 → M (34 + k) r = iI (rc P w k r)
theorem c_reachAt {M : zMem} {P : Nat → Nat → Bool} {w k0 k : Nat} {z : Int} (hw : w ≤ 24) (hM : cRc P w M k0) (hk : k0 ≤ k) (hk2 : k ≤ 100) (z1 : -100 ≤ z) (z2 : z ≤ 100) : fX0_reachAt (iI k) (iI z) M = some (iI (rcI P w k z)) := by
  unfold fX0_reachAt
  rw [zj_eq, li_0, flt_n (by omega) (by omega) (by omega), hM.1]
  by_cases q : k < w
  · rw [fle_n (by omega) (by omega) (by omega), c_isRow z (by omega) (by omega), zb1_eq]
    unfold rcI
    by_cases g : 0 ≤ z ∧ z < 32
    · rw [if_pos g, decide_eq_true g.1, decide_eq_true g.2, if_neg (by decide), zc_in (by omega) (by omega) (by omega), zc_in (by omega) (by omega) (by omega), iI_natN (by omega), iI_nat (by omega) (by omega), hM.2 k hk q z.toNat (by omega)]
    · rw [if_neg g, if_pos]
      · rfl
      · rcases (show z < 0 ∨ 32 ≤ z by omega) with s | s
        · rw [decide_eq_false (by omega)]; rfl
        · rw [decide_eq_false (p := z < 32) (by omega), Bool.and_false]; rfl
  · rw [fle_p (by omega) (by omega) (by omega)]
    unfold rcI
    rw [rc_out (by omega), ite_self]; rfl
theorem c_lowest {M : zMem} {P : Nat → Nat → Bool} {w k0 k : Nat} {r : Int} (hw : w ≤ 24) (hM : cRc P w M k0) (hk : k0 ≤ k) (hk2 : k ≤ 100) (r1 : -50 ≤ r) (r2 : r ≤ 50) : fX0_lowestOnward (iI k) (iI r) M = some (iI (lo P w k r)) := by
  have hrc := fun z => rc_le P w k z
  have hrI : ∀ z, rcI P w k z ≤ 24 := by
    intro z; unfold rcI
    by_cases g : 0 ≤ z ∧ z < 32
    · rw [if_pos g]; have := hrc z.toNat; omega
    · rw [if_neg g]; omega
  have hl : zlp (zu2 (fX0_lowestOnward_L7 (iI k) (iI r) M)) zfu (iI r, iI (r + 1)) = some (iI (r - 2), iI (lo P w k r)) := by
    have step : ∀ x y : Int, r - 1 ≤ x → x ≤ r → r - 1 ≤ y → y ≤ r + 1 → fX0_lowestOnward_L7 (iI k) (iI r) M (iI x) (iI y) = some (.inl (iI (x - 1), iI (if rcI P w k y < rcI P w k x then x else y))) := by
      intro x y x1 x2 y1 y2
      have h1 := hrI x
      have h2 := hrI y
      unfold fX0_lowestOnward_L7
      rw [show (-1 : Int32) = iI (-1) from rfl, li_1, iI_sub, flt_n (by omega) (by omega) (by omega), c_reachAt hw hM hk hk2 (by omega) (by omega), zb1_eq, c_reachAt hw hM hk hk2 (by omega) (by omega), zb1_eq, iI_add, show x + -1 = x - 1 by omega]
      by_cases q : rcI P w k y < rcI P w k x
      · rw [fle_n (by omega) (by omega) (by omega), if_pos q]
      · rw [fle_p (by omega) (by omega) (by omega), if_neg q]
    have hb2 : r - 1 ≤ lo2 P w k r ∧ lo2 P w k r ≤ r + 1 := by
      unfold lo2
      by_cases q : rcI P w k (r + 1) < rcI P w k r
      · rw [if_pos q]; omega
      · rw [if_neg q]; omega
    have s1 := step r (r + 1) (by omega) (by omega) (by omega) (by omega)
    have s2 := step (r - 1) (lo2 P w k r) (by omega) (by omega) (by omega) (by omega)
    refine zlp_seq (S := fun j => match j with | 0 => (iI r, iI (r + 1)) | 1 => (iI (r - 1), iI (lo2 P w k r)) | _ => (iI (r - 2), iI (lo P w k r))) _ 2 (by omega) rfl (fun j hj => ?_) ?_
    · rcases (show j = 0 ∨ j = 1 by omega) with rfl | rfl
      · exact s1
      · show fX0_lowestOnward_L7 (iI k) (iI r) M (iI (r - 1)) (iI (lo2 P w k r)) = some (.inl (iI (r - 2), iI (lo P w k r)))
        rw [s2, show r - 1 - 1 = r - 2 by omega]; rfl
    · show fX0_lowestOnward_L7 (iI k) (iI r) M (iI (r - 2)) (iI (lo P w k r)) = _
      unfold fX0_lowestOnward_L7
      rw [show (-1 : Int32) = iI (-1) from rfl, li_1, iI_sub, flt_p (by omega) (by omega) (by omega)]
  unfold fX0_lowestOnward
  rw [zn_eq, li_1, iI_add, hl, zb1_eq]
/-- the best begin among the places seen -/
def pk (P : Nat → Nat → Bool) (w k r L F R : Nat) : Prop := (∀ k' r', k' < w → r' < 32 → (k < k' ∨ (k' = k ∧ r' < r)) → rc P w k' r' ≤ L ∧ (0 < L → (k' < F ∨ (k' = F ∧ R < r')) → rc P w k' r' < L)) ∧ (0 < L → F < w ∧ R < 32 ∧ k ≤ F ∧ rc P w F R = L)
def cPk (P : Nat → Nat → Bool) (w : Nat) (M : zMem) (k r : Nat) : Prop := ∃ L F R, pk P w k r L F R ∧ L ≤ 24 ∧ M 32 4 = iI L ∧ (0 < L → M 32 3 = iI F ∧ M 32 5 = iI R)
