/-! profiles -/
def plc (a : Nat) (s : Int) (k r : Nat) : Int := if a = 0 then (r : Int) - shf 0 s k else (k : Int) - shf 1 s r
theorem pl_all : ∀ a : Fin 2, ∀ s : Fin 33, ∀ k : Fin 24, ∀ r : Fin 32, -31 ≤ plc a.val ((s.val : Int) - 16) k.val r.val ∧ plc a.val ((s.val : Int) - 16) k.val r.val ≤ 54 := by decide +kernel
theorem pl_in {a k r : Nat} {s : Int} (ha : a < 2) (h1 : -16 ≤ s) (h2 : s ≤ 16) (hk : k < 24) (hr : r < 32) : -31 ≤ plc a s k r ∧ plc a s k r ≤ 54 := by
  have := pl_all ⟨a, ha⟩ ⟨(s + 16).toNat, by omega⟩ ⟨k, hk⟩ ⟨r, hr⟩
  rw [show (((⟨(s + 16).toNat, by omega⟩ : Fin 33).val : Nat) : Int) - 16 = s from by show ((s + 16).toNat : Int) - 16 = s; omega] at this
  exact this
/-- dots of column k in rows ahead of r that go to i -/
def cl1 (P : Nat → Nat → Bool) (a : Nat) (s : Int) (k r : Nat) (i : Int) : Nat := fb_ct (fun r' => P k r' && decide (plc a s k r' = i)) r
def prf (P : Nat → Nat → Bool) (a : Nat) (s : Int) (w : Nat) (i : Int) : Nat := fb_sm (fun k => cl1 P a s k 32 i) w
theorem bit_0 (x : Int32) : (x &&& 1 = 1) ↔ bt x 0 = true := by
  constructor
  · intro h
    have h2 : bt (x &&& 1) 0 = true := by rw [h]; decide
    rw [b_and] at h2
    simpa using (Bool.and_eq_true _ _ ▸ h2).1
  · intro h
    apply b_ext
    intro i hi
    rw [b_and]
    by_cases h0 : i = 0
    · subst h0; rw [h]; rfl
    · have : ∀ i, i < 32 → i ≠ 0 → bt (1 : Int32) i = false := by decide +kernel
      rw [this i hi h0, Bool.and_false]
theorem c_countIn {M : zMem} {p : Int} (h1 : -31 ≤ p) (h2 : p ≤ 54) : fX3_countIn (iI p) M = some (zwr M 23 (p + 31).toNat (M 23 (p + 31).toNat + 1)) := by
  unfold fX3_countIn
  rw [zj_eq, show (-31 : Int32) = iI (-31) from rfl, flt_n (by omega) (by omega) (by omega), show (54 : Int32) = iI 54 from rfl, flt_n (by omega) (by omega) (by omega), iI_sub, zc_in (by omega) (by omega) (by omega), zc_in (by omega) (by omega) (by omega), zn_eq, iI_nat (by omega) (by omega), show p - -31 = p + 31 by omega]
theorem c_tal1 {M0 : zMem} {w a k : Nat} {s : Int} {P : Nat → Nat → Bool} (hP : cPg M0 w P) (ha : a < 2) (h1 : -16 ≤ s) (h2 : s ≤ 16) (hk : k < w) {M : zMem} {c : Int → Nat} (h0 : ∀ c k, c ≠ 23 → M c k = M0 c k) (hc : ∀ j : Nat, j < 86 → M 23 j = iI (c ((j : Int) - 31))) :
    ∃ b, zlp (zu3 (fX3_tally_L31 (iI a) (iI s) (iI k))) zfu (iI 0, M0 2 k, M) = some b ∧ ∃ x1 x2 M', b = (x1, x2, M') ∧ (∀ c k, c ≠ 23 → M' c k = M0 c k) ∧ ∀ j : Nat, j < 86 → M' 23 j = iI ((c ((j : Int) - 31) + cl1 P a s k 32 ((j : Int) - 31) : Nat) : Int) := by
  have hw := hP.2.1
  refine zlp_inv (fun r x => ∃ left M', x = (iI (r : Int), left, M') ∧ (∀ i, i < 32 → bt left i = bt (M0 2 k) (r + i)) ∧ (∀ c k, c ≠ 23 → M' c k = M0 c k) ∧ ∀ j : Nat, j < 86 → M' 23 j = iI ((c ((j : Int) - 31) + cl1 P a s k r ((j : Int) - 31) : Nat) : Int)) _ 32 (by omega) ⟨M0 2 k, M, rfl, fun i hi => by rw [Nat.zero_add], h0, fun j hj => by rw [hc j hj]; rfl⟩ ?_ ?_
  · rintro r x hr ⟨left, M', rfl, g1, g2, g3⟩
    have eb : bt left 0 = P k r := by rw [g1 0 (by omega), Nat.add_zero]; exact hP.2.2.2.1 k (by omega) r hr
    have eL : zu3 (fX3_tally_L31 (iI a) (iI s) (iI k)) (iI (r : Int), left, M') = fX3_tally_L31 (iI a) (iI s) (iI k) (iI r) left M' := rfl
    rw [eL]
    unfold fX3_tally_L31
    rw [li_32, fle_n (by omega) (by omega) (by omega)]
    by_cases hz : left = 0
    · right
      rw [if_pos hz]
      refine ⟨_, rfl, iI r, left, M', rfl, g2, fun j hj => ?_⟩
      rw [g3 j hj]
      congr 3
      unfold cl1
      have : ∀ d, r + d ≤ 32 → fb_ct (fun r' => P k r' && decide (plc a s k r' = (j : Int) - 31)) (r + d) = fb_ct (fun r' => P k r' && decide (plc a s k r' = (j : Int) - 31)) r := by
        intro d
        induction d with
        | zero => intro _; rfl
        | succ d ih =>
          intro hd
          rw [show r + (d + 1) = (r + d) + 1 by omega, fb_ct_succ, ih (by omega)]
          have e0 : P k (r + d) = false := by
            rw [← hP.2.2.2.1 k (by omega) (r + d) (by omega), ← g1 d (by omega), hz]; exact b_0 d
          rw [e0]; rfl
      have := this (32 - r) (by omega)
      rw [show r + (32 - r) = 32 by omega] at this
      exact this.symm
    · left
      rw [if_neg hz, zj_eq]
      have eu : ∀ i, i < 32 → bt (zush left 1) i = bt (M0 2 k) (r + 1 + i) := by
        intro i hi
        rw [show (1 : Int32) = nI 1 from rfl]
        show bt ((left.toUInt32 >>> ((nI 1).toUInt32 &&& Int32.toUInt32 31)).toInt32) i = _
        rw [b_ushr 1 (by omega)]
        by_cases q : 1 + i < 32
        · rw [g1 _ q]; congr 1; omega
        · rw [b_big (by omega), b_big (by omega)]
      have ec : ∀ j : Nat, cl1 P a s k (r + 1) ((j : Int) - 31) = cl1 P a s k r ((j : Int) - 31) + (if (P k r && decide (plc a s k r = (j : Int) - 31)) = true then 1 else 0) := fun j => rfl
      cases hp : P k r with
      | false =>
        rw [if_neg (show ¬ (left &&& 1 = 1) by rw [bit_0, eb, hp]; decide)]
        refine ⟨_, rfl, zush left 1, M', by rw [li_1, iI_add]; rfl, eu, g2, fun j hj => ?_⟩
        rw [g3 j hj, ec, hp]; rfl
      | true =>
        have hpl := pl_in (a := a) (k := k) (r := r) (s := s) ha h1 h2 (by omega) hr
        rw [if_pos (show left &&& 1 = 1 by rw [bit_0, eb, hp]), zj_eq]
        have hsh : (if iI (a : Int) = 0 then zb1 (fX6_shiftOf 0 (iI s) (iI k)) (fun r35 => zb1 (fX3_countIn (iI r - r35) M') (fun M38 => zn (zush left 1) (fun x40 => some (Sum.inl (β := Int32 × Int32 × zMem) (iI (r : Int) + 1, x40, M38))))) else zb1 (fX6_shiftOf 1 (iI s) (iI r)) (fun r33 => zb1 (fX3_countIn (iI k - r33) M') (fun M38 => zn (zush left 1) (fun x40 => some (Sum.inl (iI (r : Int) + 1, x40, M38)))))) = zb1 (fX3_countIn (iI (plc a s k r)) M') (fun M38 => zn (zush left 1) (fun x40 => some (Sum.inl (iI (r : Int) + 1, x40, M38)))) := by
          rcases (show a = 0 ∨ a = 1 by omega) with rfl | rfl
          · have e := sh_at (a := 0) (k := k) (s := s) (by omega) h1 h2 (by omega)
            rw [if_pos (show iI ((0 : Nat) : Int) = 0 from rfl), show (0 : Int32) = iI ((0 : Nat) : Int) from rfl, e.1, zb1_eq, iI_sub]; rfl
          · have e := sh_at (a := 1) (k := r) (s := s) (by omega) h1 h2 (by omega)
            rw [if_neg (by decide), show (1 : Int32) = iI ((1 : Nat) : Int) from rfl, e.1, zb1_eq, iI_sub]; rfl
        refine ⟨(iI ((r + 1 : Nat) : Int), zush left 1, zwr M' 23 (plc a s k r + 31).toNat (M' 23 (plc a s k r + 31).toNat + 1)), ?_, zush left 1, _, rfl, eu, fun c' k' hc' => by rw [zwr_o hc']; exact g2 c' k' hc', fun j hj => ?_⟩
        · refine Eq.trans hsh ?_
          rw [c_countIn hpl.1 hpl.2, zb1_eq, zn_eq, li_1, iI_add]; rfl
        · rw [ec, hp, Bool.true_and]
          by_cases z : j = (plc a s k r + 31).toNat
          · rw [z, zwr_s, ← z, g3 j hj, decide_eq_true (by omega), if_pos rfl, li_1, iI_add]; rfl
          · rw [zwr_k z, g3 j hj, decide_eq_false (by omega)]; rfl
  · rintro x ⟨left, M', rfl, g1, g2, g3⟩
    refine ⟨(iI ((32 : Nat) : Int), left, M'), ?_, _, _, _, rfl, g2, g3⟩
    show fX3_tally_L31 (iI a) (iI s) (iI k) (iI ((32 : Nat) : Int)) left M' = _
    unfold fX3_tally_L31
    rw [li_32, fle_p (by omega) (by omega) (by omega)]
theorem c_tally {M : zMem} {w a : Nat} {s : Int} {P : Nat → Nat → Bool} (hP : cPg M w P) (ha : a < 2) (h1 : -16 ≤ s) (h2 : s ≤ 16) : ∃ M', fX3_tally (iI a) (iI s) M = some M' ∧ (∀ c k, c ≠ 23 → M' c k = M c k) ∧ ∀ j : Nat, j < 86 → M' 23 j = iI (prf P a s w ((j : Int) - 31)) := by
  have hw := hP.2.1
  obtain ⟨M2, eM2⟩ : ∃ M2, M2 = zwa M 23 (fun j => if j < 86 then 0 else M 23 j) := ⟨_, rfl⟩
  obtain ⟨b, hb, x1, M', rfl, g2, g3⟩ : ∃ b, zlp (zu2 (fX3_tally_L11 (iI a) (iI s))) zfu (iI 0, M2) = some b ∧ ∃ x1 M', b = (x1, M') ∧ (∀ c k, c ≠ 23 → M' c k = M c k) ∧ ∀ j : Nat, j < 86 → M' 23 j = iI (prf P a s w ((j : Int) - 31)) := by
    refine zlp_inv (fun k x => ∃ M', x = (iI (k : Int), M') ∧ (∀ c k, c ≠ 23 → M' c k = M c k) ∧ ∀ j : Nat, j < 86 → M' 23 j = iI (prf P a s k ((j : Int) - 31))) _ w (by omega) ⟨M2, rfl, fun c k hc => by rw [eM2, zwa_o hc], fun j hj => by rw [eM2, zwa_s, if_pos hj]; rfl⟩ ?_ ?_
    · rintro k x hk ⟨M', rfl, g2, g3⟩
      left
      have gP : cPg M' w P := cPg_eq hP (g2 _ _ (by omega)) (fun k => g2 _ _ (by omega))
      obtain ⟨b, hb, y1, y2, M3, rfl, q2, q3⟩ := c_tal1 (M0 := M') gP ha h1 h2 hk (M := M') (c := prf P a s k) (fun _ _ _ => rfl) g3
      refine ⟨(iI ((k + 1 : Nat) : Int), M3), ?_, M3, rfl, fun c' k' hc' => by rw [q2 c' k' hc', g2 c' k' hc'], q3⟩
      show fX3_tally_L11 (iI a) (iI s) (iI k) M' = _
      unfold fX3_tally_L11 fX4_width
      rw [gP.2.2.1, zb1_eq, fle_n (by omega) (by omega) (by omega), c_dotsN gP hk, zb1_eq, li_0, hb, zb1_eq]
      show some (Sum.inl (iI (k : Int) + 1, M3)) = _
      rw [li_1, iI_add]; rfl
    · rintro x ⟨M', rfl, g2, g3⟩
      have gP : cPg M' w P := cPg_eq hP (g2 _ _ (by omega)) (fun k => g2 _ _ (by omega))
      refine ⟨(iI w, M'), ?_, _, _, rfl, g2, g3⟩
      show fX3_tally_L11 (iI a) (iI s) (iI w) M' = _
      unfold fX3_tally_L11 fX4_width
      rw [gP.2.2.1, zb1_eq, if_pos (Int32.le_refl _)]
  refine ⟨M', ?_, g2, g3⟩
  unfold fX3_tally
  rw [f_fill (by omega), zb1_eq, ← eM2, li_0, hb, zb1_eq]
theorem prf_out {P : Nat → Nat → Bool} {a w : Nat} {s i : Int} (hPw : ∀ k r, P k r = true → k < w ∧ r < 32) (hw : w ≤ 24) (ha : a < 2) (h1 : -16 ≤ s) (h2 : s ≤ 16) (hi : i < -31 ∨ 54 < i) : prf P a s w i = 0 := by
  unfold prf
  rw [fb_sm_cong (g := fun _ => 0) (fun k hk => by
    unfold cl1
    apply fb_ct_zero.mpr
    intro r hr
    have := pl_in (a := a) (k := k) (r := r) (s := s) ha h1 h2 (by omega) hr
    rw [decide_eq_false (by omega), Bool.and_false]), fb_sm_const]
  omega
theorem r_sheared {a k r : Nat} {s : Int} (ha : a < 2) (h1 : -16 ≤ s) (h2 : s ≤ 16) (hk : k < 32) (hr : r < 32) : fX7_sheared (iI a) (iI s) (iI k) (iI r) = some (iI (plc a s k r)) := by
  unfold fX7_sheared
  rw [zj_eq]
  rcases (show a = 0 ∨ a = 1 by omega) with rfl | rfl
  · have e := sh_at (a := 0) (k := k) (s := s) (by omega) h1 h2 (by omega)
    rw [if_pos (show iI ((0 : Nat) : Int) = 0 from rfl), e.2.1, zb1_eq, iI_sub]; rfl
  · have e := sh_at (a := 1) (k := r) (s := s) (by omega) h1 h2 (by omega)
    rw [if_neg (by decide), e.2.1, zb1_eq, iI_sub]; rfl
theorem r_findP {M : zMem} {w a : Nat} {s : Int} {P : Nat → Nat → Bool} (hP : rPg M w P) (ha : a < 2) (h1 : -16 ≤ s) (h2 : s ≤ 16) : ∃ M', fX7_findProfile (iI a) (iI s) M = some M' ∧ (∀ c k, c ≠ 65 → M' c k = M c k) ∧ ∀ j : Nat, j < 201 → M' 65 j = iI (prf P a s w ((j : Int) - 100)) := by
  have hw := hP.2.1
  have hl0 := lp_wr (body := zu2 fX7_findProfile_L2) 201 0 65 (fun _ => 0) M (by omega) (fun i hi Mi eMi => by
    show fX7_findProfile_L2 (iI i) Mi = _
    unfold fX7_findProfile_L2
    rw [li_201, fle_n (by omega) (by omega) (by omega), zc_in (by omega) (by omega) (by omega), zn_eq, iI_natN (by omega), li_1, iI_add, show 0 + i = i by omega]; rfl) (fun Mi eMi => by
    show fX7_findProfile_L2 (iI ((201 : Nat) : Int)) Mi = _
    unfold fX7_findProfile_L2
    rw [li_201, fle_p (by omega) (by omega) (by omega)])
  obtain ⟨M2, eM2⟩ : ∃ M2, M2 = zwa M 65 (fun y => if 0 ≤ y ∧ y < 0 + 201 then 0 else M 65 y) := ⟨_, rfl⟩
  rw [← eM2] at hl0
  obtain ⟨b, hb, x1, M', rfl, g2, g3⟩ : ∃ b, zlp (zu2 (fX7_findProfile_L26 (iI a) (iI s))) zfu (iI 0, M2) = some b ∧ ∃ x1 M', b = (x1, M') ∧ (∀ c k, c ≠ 65 → M' c k = M c k) ∧ ∀ j : Nat, j < 201 → M' 65 j = iI (prf P a s w ((j : Int) - 100)) := by
    refine zlp_inv (fun k x => ∃ M', x = (iI (k : Int), M') ∧ (∀ c k, c ≠ 65 → M' c k = M c k) ∧ ∀ j : Nat, j < 201 → M' 65 j = iI (prf P a s k ((j : Int) - 100))) _ w (by omega) ⟨M2, rfl, fun c k hc => by rw [eM2, zwa_o hc], fun j hj => by rw [eM2, zwa_s, if_pos (by omega)]; rfl⟩ ?_ ?_
    · rintro k x hk ⟨M', rfl, g2, g3⟩
      left
      have gP : rPg M' w P := rPg_eq hP (g2 _ _ (by omega)) (fun k => g2 _ _ (by omega))
      obtain ⟨b, hb, y1, M3, rfl, q2, q3⟩ : ∃ b, zlp (zu2 (fX7_findProfile_L37 (iI a) (iI s) (iI k))) zfu (iI 0, M') = some b ∧ ∃ y1 M3, b = (y1, M3) ∧ (∀ c k, c ≠ 65 → M3 c k = M' c k) ∧ ∀ j : Nat, j < 201 → M3 65 j = iI ((prf P a s k ((j : Int) - 100) + cl1 P a s k 32 ((j : Int) - 100) : Nat) : Int) := by
        refine zlp_inv (fun r x => ∃ M3, x = (iI (r : Int), M3) ∧ (∀ c k, c ≠ 65 → M3 c k = M' c k) ∧ ∀ j : Nat, j < 201 → M3 65 j = iI ((prf P a s k ((j : Int) - 100) + cl1 P a s k r ((j : Int) - 100) : Nat) : Int)) _ 32 (by omega) ⟨M', rfl, fun _ _ _ => rfl, fun j hj => by rw [g3 j hj]; rfl⟩ ?_ ?_
        · rintro r x hr ⟨M3, rfl, q2, q3⟩
          left
          have hpl := pl_in (a := a) (k := k) (r := r) (s := s) ha h1 h2 (by omega) hr
          have ei : M3 61 (32 * k + r) = b2 (P k r) := by rw [q2 _ _ (by omega)]; exact gP.2.2.2.1 k (by omega) r hr
          refine ⟨(iI ((r + 1 : Nat) : Int), zwr M3 65 (100 + plc a s k r).toNat (M3 65 (100 + plc a s k r).toNat + iI (if P k r then (1 : Int) else 0))), ?_, _, rfl, fun c' k' hc' => by rw [zwr_o hc']; exact q2 c' k' hc', fun j hj => ?_⟩
          · show fX7_findProfile_L37 (iI a) (iI s) (iI k) (iI r) M3 = _
            unfold fX7_findProfile_L37
            rw [li_32, fle_n (by omega) (by omega) (by omega), r_sheared ha h1 h2 (by omega) (by omega), zb1_eq, li_100, iI_add, zc_in (by omega) (by omega) (by omega), iI_mul, iI_add, zc_in (by omega) (by omega) (by omega), zc_in (by omega) (by omega) (by omega), zn_eq, iI_nat (by omega) (by omega), iI_nat (z := 32 * (k : Int) + r) (by omega) (by omega), show ((32 : Int) * k + r).toNat = 32 * k + r by omega, ei, ite_01, li_1, iI_add]; rfl
          · have ec : cl1 P a s k (r + 1) ((j : Int) - 100) = cl1 P a s k r ((j : Int) - 100) + (if (P k r && decide (plc a s k r = (j : Int) - 100)) = true then 1 else 0) := rfl
            rw [ec]
            by_cases z : j = (100 + plc a s k r).toNat
            · rw [z, zwr_s, ← z, q3 j hj, decide_eq_true (by omega), Bool.and_true, iI_add]
              cases P k r
              · rw [if_neg (by decide), if_neg (by decide)]; rfl
              · rw [if_pos rfl, if_pos rfl]; rfl
            · rw [zwr_k z, q3 j hj, decide_eq_false (by omega), Bool.and_false]; rfl
        · rintro x ⟨M3, rfl, q2, q3⟩
          refine ⟨(iI ((32 : Nat) : Int), M3), ?_, _, _, rfl, q2, q3⟩
          show fX7_findProfile_L37 (iI a) (iI s) (iI k) (iI ((32 : Nat) : Int)) M3 = _
          unfold fX7_findProfile_L37
          rw [li_32, fle_p (by omega) (by omega) (by omega)]
      refine ⟨(iI ((k + 1 : Nat) : Int), M3), ?_, M3, rfl, fun c' k' hc' => by rw [q2 c' k' hc', g2 c' k' hc'], q3⟩
      show fX7_findProfile_L26 (iI a) (iI s) (iI k) M' = _
      unfold fX7_findProfile_L26
      rw [gP.2.2.1, fle_n (by omega) (by omega) (by omega), li_0, hb, zb1_eq]
      show some (Sum.inl (iI (k : Int) + 1, M3)) = _
      rw [li_1, iI_add]; rfl
    · rintro x ⟨M', rfl, g2, g3⟩
      refine ⟨(iI w, M'), ?_, _, _, rfl, g2, g3⟩
      show fX7_findProfile_L26 (iI a) (iI s) (iI w) M' = _
      unfold fX7_findProfile_L26
      rw [if_pos (by rw [g2 _ _ (by omega), hP.2.2.1]; exact Int32.le_refl _)]
  refine ⟨M', ?_, g2, g3⟩
  unfold fX7_findProfile
  rw [li_0, hl0, zb1_eq]
  show zb1 (zlp (zu2 (fX7_findProfile_L26 (iI a) (iI s))) zfu (iI 0, M2)) _ = _
  rw [hb, zb1_eq]
theorem st_profile {M : zMem} (h : Rl M) (p q v : Int32) : ∃ o M1 M2, fX6_profile p q v M = some (o, M1) ∧ fX7_profile p q v M1 = some (o, M2) ∧ Rl M2 := by
  obtain ⟨a, a1, a2, rfl⟩ := iI_ex p
  obtain ⟨s, s1, s2, rfl⟩ := iI_ex q
  obtain ⟨i, i1, i2, rfl⟩ := iI_ex v
  have hR := h
  obtain ⟨⟨w, P, h1, h2, -⟩, -⟩ := h
  have hw := h1.2.1
  by_cases ha : 0 ≤ a ∧ a < 2
  · by_cases hs : -16 ≤ s ∧ s ≤ 16
    · by_cases hi : -99 ≤ i ∧ i ≤ 99
      · obtain ⟨a, rfl⟩ : ∃ n : Nat, a = n := ⟨a.toNat, by omega⟩
        obtain ⟨M1, e1, g1, g2⟩ := c_tally h1 (by omega) hs.1 hs.2 (a := a) (s := s)
        have gA : Ag M M1 := fun c k hk => g1 c k (by intro e; rw [e] at hk; simp [relv] at hk)
        obtain ⟨M2, e2, g3, g4⟩ := r_findP (rPg_ag h2 gA) (by omega) hs.1 hs.2 (a := a) (s := s)
        have gB : Ag M1 M2 := fun c k hk => g3 c k (by intro e; rw [e] at hk; simp [relv] at hk)
        refine ⟨iI (prf P a s w i), M1, M2, ?_, ?_, Rl_ag (Rl_ag hR gA) gB⟩
        · have hca : fX3_countAt (iI a) (iI s) (iI i) M = some (iI (prf P a s w i), M1) := by
            unfold fX3_countAt
            rw [e1, zb1_eq, zj_eq, show (-31 : Int32) = iI (-31) from rfl, show (54 : Int32) = iI 54 from rfl]
            rcases (show i < -31 ∨ (-31 ≤ i ∧ i ≤ 54) ∨ (-31 ≤ i ∧ 54 < i) by omega) with z | z | z
            · rw [flt_p (by omega) (by omega) (by omega), prf_out h1.2.2.2.2 hw (by omega) hs.1 hs.2 (by omega)]; rfl
            · rw [flt_n (by omega) (by omega) (by omega), flt_n (by omega) (by omega) (by omega), iI_sub, zc_in (by omega) (by omega) (by omega), iI_nat (by omega) (by omega), g2 _ (by omega), show (((i - -31).toNat : Nat) : Int) - 31 = i by omega]
            · rw [flt_n (by omega) (by omega) (by omega), flt_p (by omega) (by omega) (by omega), prf_out h1.2.2.2.2 hw (by omega) hs.1 hs.2 (by omega)]; rfl
          unfold fX6_profile
          rw [c_isAxis1 ha.1 ha.2, zb1_eq, if_neg (by decide), c_isShear1 hs.1 hs.2, zb1_eq, if_neg (by decide), show (-99 : Int32) = iI (-99) from rfl, flt_n (by omega) (by omega) (by omega), li_99, fle_p (by omega) (by omega) (by omega), hca, zb2_eq]
        · unfold fX7_profile
          rw [r_isAxis1 ha.1 ha.2, zb1_eq, if_neg (by decide), r_isShear1 hs.1 hs.2, zb1_eq, if_neg (by decide), show (-99 : Int32) = iI (-99) from rfl, li_99, r_within1 (by omega) (by omega) (by omega) (by omega), zb1_eq, if_neg (by decide), e2, zb1_eq, li_100, iI_add, zc_in (by omega) (by omega) (by omega), iI_nat (by omega) (by omega), g4 _ (by omega), show (((100 + i).toNat : Nat) : Int) - 100 = i by omega]
      · refine ⟨iI (-2), M, M, ?_, ?_, hR⟩
        · rcases (show i < -99 ∨ (-99 ≤ i ∧ 99 < i) by omega) with z | z
          · ((simp (disch := omega) only [zn_eq, zj_eq, zb1_eq, zb2_eq, zb3_eq, zbr_l, zbr_r, zc_in, iI_add, iI_sub, iI_mul, iI_neg, iI_lt, iI_le, iI_eq, zwr_zwr, zwa_zwa, zwr_s, zwr_o, zwr_O, zwr_k, zwa_s, zwa_S, zwa_o, zwa_O, upd_s, upd_o, if_true, if_false, if_pos, if_neg, iI_natN, iI_nat, Int.toNat_natCast, c_isRow1, c_isRow0, c_isCard1, c_isCard0, r_within1, r_within0, r_isRow1, r_isRow0, r_isCard1, r_isCard0, c_isAxis1, c_isAxis0, c_isShear1, c_isShear0, r_isAxis1, r_isAxis0, r_isShear1, r_isShear0, zc_cp, li_0, li_1, li_2, li_3, li_4, li_5, li_6, li_7, li_8, li_9, li_10, li_11, li_12, li_15, li_16, li_18, li_22, li_23, li_24, li_28, li_31, li_32, li_33, li_40, li_52, li_53, li_63, li_64, li_85, li_86, li_96, li_99, li_100, li_127, li_128, li_200, li_201, li_384, li_768, li_1023, li_5376, li_6144, fX6_profile, show (-99 : Int32) = iI (-99) from rfl]); try rfl)
          · ((simp (disch := omega) only [zn_eq, zj_eq, zb1_eq, zb2_eq, zb3_eq, zbr_l, zbr_r, zc_in, iI_add, iI_sub, iI_mul, iI_neg, iI_lt, iI_le, iI_eq, zwr_zwr, zwa_zwa, zwr_s, zwr_o, zwr_O, zwr_k, zwa_s, zwa_S, zwa_o, zwa_O, upd_s, upd_o, if_true, if_false, if_pos, if_neg, iI_natN, iI_nat, Int.toNat_natCast, c_isRow1, c_isRow0, c_isCard1, c_isCard0, r_within1, r_within0, r_isRow1, r_isRow0, r_isCard1, r_isCard0, c_isAxis1, c_isAxis0, c_isShear1, c_isShear0, r_isAxis1, r_isAxis0, r_isShear1, r_isShear0, zc_cp, li_0, li_1, li_2, li_3, li_4, li_5, li_6, li_7, li_8, li_9, li_10, li_11, li_12, li_15, li_16, li_18, li_22, li_23, li_24, li_28, li_31, li_32, li_33, li_40, li_52, li_53, li_63, li_64, li_85, li_86, li_96, li_99, li_100, li_127, li_128, li_200, li_201, li_384, li_768, li_1023, li_5376, li_6144, fX6_profile, show (-99 : Int32) = iI (-99) from rfl]); try rfl)
        · ((simp (disch := omega) only [zn_eq, zj_eq, zb1_eq, zb2_eq, zb3_eq, zbr_l, zbr_r, zc_in, iI_add, iI_sub, iI_mul, iI_neg, iI_lt, iI_le, iI_eq, zwr_zwr, zwa_zwa, zwr_s, zwr_o, zwr_O, zwr_k, zwa_s, zwa_S, zwa_o, zwa_O, upd_s, upd_o, if_true, if_false, if_pos, if_neg, iI_natN, iI_nat, Int.toNat_natCast, c_isRow1, c_isRow0, c_isCard1, c_isCard0, r_within1, r_within0, r_isRow1, r_isRow0, r_isCard1, r_isCard0, c_isAxis1, c_isAxis0, c_isShear1, c_isShear0, r_isAxis1, r_isAxis0, r_isShear1, r_isShear0, zc_cp, li_0, li_1, li_2, li_3, li_4, li_5, li_6, li_7, li_8, li_9, li_10, li_11, li_12, li_15, li_16, li_18, li_22, li_23, li_24, li_28, li_31, li_32, li_33, li_40, li_52, li_53, li_63, li_64, li_85, li_86, li_96, li_99, li_100, li_127, li_128, li_200, li_201, li_384, li_768, li_1023, li_5376, li_6144, fX7_profile, show (-99 : Int32) = iI (-99) from rfl]); try rfl)
    · exact ⟨iI (-2), M, M, by ((simp (disch := omega) only [zn_eq, zj_eq, zb1_eq, zb2_eq, zb3_eq, zbr_l, zbr_r, zc_in, iI_add, iI_sub, iI_mul, iI_neg, iI_lt, iI_le, iI_eq, zwr_zwr, zwa_zwa, zwr_s, zwr_o, zwr_O, zwr_k, zwa_s, zwa_S, zwa_o, zwa_O, upd_s, upd_o, if_true, if_false, if_pos, if_neg, iI_natN, iI_nat, Int.toNat_natCast, c_isRow1, c_isRow0, c_isCard1, c_isCard0, r_within1, r_within0, r_isRow1, r_isRow0, r_isCard1, r_isCard0, c_isAxis1, c_isAxis0, c_isShear1, c_isShear0, r_isAxis1, r_isAxis0, r_isShear1, r_isShear0, zc_cp, li_0, li_1, li_2, li_3, li_4, li_5, li_6, li_7, li_8, li_9, li_10, li_11, li_12, li_15, li_16, li_18, li_22, li_23, li_24, li_28, li_31, li_32, li_33, li_40, li_52, li_53, li_63, li_64, li_85, li_86, li_96, li_99, li_100, li_127, li_128, li_200, li_201, li_384, li_768, li_1023, li_5376, li_6144, fX6_profile]); try rfl), by ((simp (disch := omega) only [zn_eq, zj_eq, zb1_eq, zb2_eq, zb3_eq, zbr_l, zbr_r, zc_in, iI_add, iI_sub, iI_mul, iI_neg, iI_lt, iI_le, iI_eq, zwr_zwr, zwa_zwa, zwr_s, zwr_o, zwr_O, zwr_k, zwa_s, zwa_S, zwa_o, zwa_O, upd_s, upd_o, if_true, if_false, if_pos, if_neg, iI_natN, iI_nat, Int.toNat_natCast, c_isRow1, c_isRow0, c_isCard1, c_isCard0, r_within1, r_within0, r_isRow1, r_isRow0, r_isCard1, r_isCard0, c_isAxis1, c_isAxis0, c_isShear1, c_isShear0, r_isAxis1, r_isAxis0, r_isShear1, r_isShear0, zc_cp, li_0, li_1, li_2, li_3, li_4, li_5, li_6, li_7, li_8, li_9, li_10, li_11, li_12, li_15, li_16, li_18, li_22, li_23, li_24, li_28, li_31, li_32, li_33, li_40, li_52, li_53, li_63, li_64, li_85, li_86, li_96, li_99, li_100, li_127, li_128, li_200, li_201, li_384, li_768, li_1023, li_5376, li_6144, fX7_profile]); try rfl), hR⟩
  · exact ⟨iI (-2), M, M, by ((simp (disch := omega) only [zn_eq, zj_eq, zb1_eq, zb2_eq, zb3_eq, zbr_l, zbr_r, zc_in, iI_add, iI_sub, iI_mul, iI_neg, iI_lt, iI_le, iI_eq, zwr_zwr, zwa_zwa, zwr_s, zwr_o, zwr_O, zwr_k, zwa_s, zwa_S, zwa_o, zwa_O, upd_s, upd_o, if_true, if_false, if_pos, if_neg, iI_natN, iI_nat, Int.toNat_natCast, c_isRow1, c_isRow0, c_isCard1, c_isCard0, r_within1, r_within0, r_isRow1, r_isRow0, r_isCard1, r_isCard0, c_isAxis1, c_isAxis0, c_isShear1, c_isShear0, r_isAxis1, r_isAxis0, r_isShear1, r_isShear0, zc_cp, li_0, li_1, li_2, li_3, li_4, li_5, li_6, li_7, li_8, li_9, li_10, li_11, li_12, li_15, li_16, li_18, li_22, li_23, li_24, li_28, li_31, li_32, li_33, li_40, li_52, li_53, li_63, li_64, li_85, li_86, li_96, li_99, li_100, li_127, li_128, li_200, li_201, li_384, li_768, li_1023, li_5376, li_6144, fX6_profile]); try rfl), by ((simp (disch := omega) only [zn_eq, zj_eq, zb1_eq, zb2_eq, zb3_eq, zbr_l, zbr_r, zc_in, iI_add, iI_sub, iI_mul, iI_neg, iI_lt, iI_le, iI_eq, zwr_zwr, zwa_zwa, zwr_s, zwr_o, zwr_O, zwr_k, zwa_s, zwa_S, zwa_o, zwa_O, upd_s, upd_o, if_true, if_false, if_pos, if_neg, iI_natN, iI_nat, Int.toNat_natCast, c_isRow1, c_isRow0, c_isCard1, c_isCard0, r_within1, r_within0, r_isRow1, r_isRow0, r_isCard1, r_isCard0, c_isAxis1, c_isAxis0, c_isShear1, c_isShear0, r_isAxis1, r_isAxis0, r_isShear1, r_isShear0, zc_cp, li_0, li_1, li_2, li_3, li_4, li_5, li_6, li_7, li_8, li_9, li_10, li_11, li_12, li_15, li_16, li_18, li_22, li_23, li_24, li_28, li_31, li_32, li_33, li_40, li_52, li_53, li_63, li_64, li_85, li_86, li_96, li_99, li_100, li_127, li_128, li_200, li_201, li_384, li_768, li_1023, li_5376, li_6144, fX7_profile]); try rfl), hR⟩
