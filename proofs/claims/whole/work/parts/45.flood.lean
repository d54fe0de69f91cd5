/-! the reference's strokes -/
def rRF (P : Nat → Nat → Bool) (w : Nat) (M : zMem) : Prop := M 60 13 = iI (nR P w) ∧ ∀ j, j < nR P w → M 70 j = iI (roR P w j) ∧ M 71 j = iI (fiR P w j) ∧ M 72 j = iI ((laR P w j : Int) - (fiR P w j : Int) + 1)
theorem rRF_of {P : Nat → Nat → Bool} {w : Nat} {M : zMem} (h : rRn M (ral P w 32)) : rRF P w M := ⟨h.1, fun j hj => ⟨(h.2 j hj).1, (h.2 j hj).2.1, (h.2 j hj).2.2.1⟩⟩
def o73 (M M' : zMem) : Prop := ∀ c k, c ≠ 73 → M' c k = M c k
theorem o73_rf {M : zMem} : o73 M M := fun _ _ _ => rfl
theorem o73_tr {M M' M'' : zMem} (h1 : o73 M M') (h2 : o73 M' M'') : o73 M M'' := fun c k h => (h2 c k h).trans (h1 c k h)
theorem rRF_o {P : Nat → Nat → Bool} {w : Nat} {M M' : zMem} (h : rRF P w M) (ho : o73 M M') : rRF P w M' := ⟨by rw [ho _ _ (by decide)]; exact h.1, fun j hj => by rw [ho _ _ (by decide), ho _ _ (by decide), ho _ _ (by decide)]; exact h.2 j hj⟩
theorem r_touch {M : zMem} {P : Nat → Nat → Bool} {w i j : Nat} (hw : w ≤ 24) (hM : rRF P w M) (hi : i < nR P w) (hj : j < nR P w) : (tc P w i j → fX7_areTouching (iI i) (iI j) M = some (iI 1)) ∧ (¬ tc P w i j → fX7_areTouching (iI i) (iI j) M = some (iI 0)) := by
  have hN := nR_le P hw
  obtain ⟨i1, i2, i3⟩ := R_bd P hw hi
  obtain ⟨j1, j2, j3⟩ := R_bd P hw hj
  obtain ⟨mi1, mi2, mi3⟩ := hM.2 i hi
  obtain ⟨mj1, mj2, mj3⟩ := hM.2 j hj
  have hz1 : ∀ k : Option Int32, zc (z01 (iI 1)) k = k := fun k => zc_t (by decide)
  have hz0 : ∀ k : Option Int32, zc (z01 (iI 0)) k = k := fun k => zc_t (by decide)
  have e : fX7_areTouching (iI i) (iI j) M = if ((roR P w i : Int) - (roR P w j : Int) = 1 ∨ (roR P w i : Int) - (roR P w j : Int) = -1) ∧ fiR P w i ≤ laR P w j + 1 ∧ fiR P w j ≤ laR P w i + 1 then some (iI 1) else some (iI 0) := by
    unfold fX7_areTouching
    rw [zc_in (by omega) (by omega) (by omega), zc_in (by omega) (by omega) (by omega), zn_eq, iI_natN (by omega), iI_natN (by omega), mi1, mj1, mi2, mi3, mj2, mj3, iI_sub, iI_add, iI_add, zn_eq, zj_eq, show (-1 : Int32) = iI (-1) from rfl, li_1, li_0]
    by_cases q : (roR P w i : Int) - (roR P w j : Int) = 1 ∨ (roR P w i : Int) - (roR P w j : Int) = -1
    · have h1 : (if iI ((roR P w i : Int) - (roR P w j : Int)) = iI 1 then iI 1 else if iI ((roR P w i : Int) - (roR P w j : Int)) = iI (-1) then iI 1 else iI 0) = iI 1 := by
        rcases q with q | q
        · rw [q, if_pos rfl]
        · rw [q, if_neg (by decide), if_pos rfl]
      rw [h1, if_neg (by decide), zc_in (by omega) (by omega) (by omega), zc_in (by omega) (by omega) (by omega), zc_in (by omega) (by omega) (by omega)]
      by_cases g1 : fiR P w i ≤ laR P w j + 1
      · rw [flt_n (by omega) (by omega) (by omega), zc_in (by omega) (by omega) (by omega), zc_in (by omega) (by omega) (by omega), zc_in (by omega) (by omega) (by omega)]
        by_cases g2 : fiR P w j ≤ laR P w i + 1
        · rw [flt_n (by omega) (by omega) (by omega), if_pos ⟨q, g1, g2⟩]; exact hz1 _
        · rw [flt_p (by omega) (by omega) (by omega), if_neg (fun h => g2 h.2.2)]; exact hz0 _
      · rw [flt_p (by omega) (by omega) (by omega), if_neg (fun h => g1 h.2.1)]; exact hz0 _
    · rw [feq_n (by omega) (by omega) (by omega), feq_n (by omega) (by omega) (by omega), if_pos rfl, if_neg (fun h => q h.1)]; exact hz0 _
  rw [e]
  exact ⟨fun h => if_pos ⟨by have := h.1; omega, h.2⟩, fun h => if_neg (fun g => h ⟨by have := g.1; omega, g.2⟩)⟩
def lab (ρ : Nat → Nat) (k : Nat) (L : Nat → Bool) (j : Nat) : Int := if ρ j < k then (nu ρ (ρ j) : Int) else if L j = true then (nu ρ k : Int) else -9
def rLb (P : Nat → Nat → Bool) (w : Nat) (ρ : Nat → Nat) (M : zMem) (k : Nat) (L : Nat → Bool) : Prop := ∀ j, j < nR P w → M 73 j = iI (lab ρ k L j)
theorem nu_lt {ρ : Nat → Nat} {x k : Nat} (h : ρ x = x) (hk : x < k) : nu ρ x < nu ρ k := by
  have h1 := nu_in ρ x h
  have h2 : nu ρ (x + 1) ≤ nu ρ k := fb_ct_mono _ (by omega)
  omega
theorem lab_bd {ρ : Nat → Nat} {k : Nat} {L : Nat → Bool} {j : Nat} (hr : ρ j ≤ j) (hj : j < 384) (hk : k < 384) : -9 ≤ lab ρ k L j ∧ lab ρ k L j ≤ 384 := by
  unfold lab
  have h1 := nu_le ρ (ρ j)
  have h2 := nu_le ρ k
  by_cases q : ρ j < k
  · rw [if_pos q]; omega
  · rw [if_neg q]
    by_cases g : L j = true
    · rw [if_pos g]; omega
    · rw [if_neg g]; omega
theorem lab_9 {ρ : Nat → Nat} {k : Nat} {L : Nat → Bool} {j : Nat} : lab ρ k L j = -9 ↔ k ≤ ρ j ∧ L j = false := by
  unfold lab
  by_cases q : ρ j < k
  · rw [if_pos q]; omega
  · rw [if_neg q]
    cases L j with
    | true => rw [if_pos rfl]; constructor; (intro h; omega); (intro h; exact absurd h.2 (by decide))
    | false => rw [if_neg (by decide)]; exact ⟨fun _ => ⟨by omega, rfl⟩, fun _ => rfl⟩
theorem lab_c {ρ : Nat → Nat} {k : Nat} {L : Nat → Bool} {j : Nat} (hr : ρ (ρ j) = ρ j) (hL : L j = true → ρ j = k) : lab ρ k L j = (nu ρ k : Int) ↔ L j = true := by
  unfold lab
  by_cases q : ρ j < k
  · rw [if_pos q]
    have := nu_lt hr q
    constructor
    · intro h; omega
    · intro h; have := hL h; omega
  · rw [if_neg q]
    cases L j with
    | true => rw [if_pos rfl]; exact ⟨fun _ => rfl, fun _ => rfl⟩
    | false => rw [if_neg (by decide)]; constructor; (intro h; omega); (intro h; cases h)
def uB (L : Nat → Bool) (a : Nat) : Nat → Bool := fun i => if i = a then true else L i
theorem r_sp1 {M : zMem} {P : Nat → Nat → Bool} {w k a : Nat} {ρ : Nat → Nat} {L : Nat → Bool} {f0 : Int32} (hw : w ≤ 24) (hM : rRF P w M) (hρ : rOK P w ρ) (hk : k < nR P w) (ha : a < nR P w) (hL : ∀ j, L j = true → ρ j = k) (hb : rLb P w ρ M k L) :
    ∃ x f' M' L', zlp (zu3 (fX7_spreads_L21 (iI (nu ρ k)) (iI a))) zfu (iI 0, f0, M) = some (x, f', M') ∧ rLb P w ρ M' k L' ∧ o73 M M' ∧ ((L' = L ∧ f' = f0 ∧ (k ≤ ρ a → L a = false → ∀ i, i < nR P w → L i = true → ¬ tc P w a i)) ∨ (L a = false ∧ L' = uB L a ∧ f' = iI 1 ∧ ρ a = k)) := by
  have hN := nR_le P hw
  have hnk := nu_le ρ k
  have hbd := fun j (hj : j < nR P w) => lab_bd (L := L) (hρ.1 j).1 (show j < 384 by omega) (show k < 384 by omega)
  obtain ⟨b, hzb, x, f', M', rfl, L', h1, h2, h3⟩ : ∃ b, zlp (zu3 (fX7_spreads_L21 (iI (nu ρ k)) (iI a))) zfu (iI 0, f0, M) = some b ∧ ∃ x f' M', b = (x, f', M') ∧ ∃ L', rLb P w ρ M' k L' ∧ o73 M M' ∧ ((L' = L ∧ f' = f0 ∧ (k ≤ ρ a → L a = false → ∀ i, i < nR P w → L i = true → ¬ tc P w a i)) ∨ (L a = false ∧ L' = uB L a ∧ f' = iI 1 ∧ ρ a = k)) := by
    have hB : L a = false → ρ a = k → rLb P w ρ (zwr M 73 a (iI (nu ρ k))) k (uB L a) := by
      intro g1 g2 j hj
      by_cases q : j = a
      · rw [q, zwr_s]; unfold lab uB; rw [if_neg (by omega), if_pos (if_pos rfl)]
      · rw [zwr_k q, hb j hj]; unfold lab uB; rw [if_neg q]
    refine zlp_inv (I := fun i p => p.1 = iI (i : Int) ∧ ((p.2.1 = f0 ∧ p.2.2 = M ∧ ∀ i', i' < i → L i' = true → ¬ tc P w a i') ∨ (p.2.1 = iI 1 ∧ p.2.2 = zwr M 73 a (iI (nu ρ k)) ∧ L a = false ∧ ρ a = k))) _ (nR P w) (by omega) ⟨rfl, Or.inl ⟨rfl, rfl, fun i' h => absurd h (by omega)⟩⟩ ?_ ?_
    · rintro i ⟨x, f, M2⟩ hi ⟨e1, h⟩
      dsimp only at e1 h
      rcases h with ⟨e2, e3, h⟩ | ⟨e2, e3, h4, h5⟩
      · have hda := hbd a ha
        have hdi := hbd i hi
        by_cases q : lab ρ k L a = -9
        · obtain ⟨q1, q2⟩ := lab_9.mp q
          have hci := lab_c (k := k) (L := L) (hρ.1 i).2.1 (hL i)
          by_cases g : L i = true
          · by_cases t : tc P w a i
            · have ht := (r_touch hw hM ha hi).1 t
              have h7 : ρ a = k := by rw [hρ.2 a i ha hi t]; exact hL i g
              refine Or.inl ⟨(iI ((i + 1 : Nat) : Int), iI 1, zwr M 73 a (iI (nu ρ k))), ?_, rfl, Or.inr ⟨rfl, rfl, q2, h7⟩⟩
              show fX7_spreads_L21 (iI (nu ρ k)) (iI a) x f M2 = _
              unfold fX7_spreads_L21
              rw [e1, e3, hM.1, fle_n (by omega) (by omega) (by omega), zc_in (by omega) (by omega) (by omega), iI_natN (by omega), hb a ha, q, if_pos (show iI (-9) = -9 from rfl), zc_in (by omega) (by omega) (by omega), zj_eq, iI_natN (by omega), hb i hi, hci.mpr g, if_pos rfl, ht, zb1_eq, if_neg (by decide), zc_in (by omega) (by omega) (by omega), zn_eq, li_1, iI_add]; rfl
            · have ht := (r_touch hw hM ha hi).2 t
              refine Or.inl ⟨(iI ((i + 1 : Nat) : Int), f, M), ?_, rfl, Or.inl ⟨e2, rfl, ?_⟩⟩
              · show fX7_spreads_L21 (iI (nu ρ k)) (iI a) x f M2 = _
                unfold fX7_spreads_L21
                rw [e1, e3, hM.1, fle_n (by omega) (by omega) (by omega), zc_in (by omega) (by omega) (by omega), iI_natN (by omega), hb a ha, q, if_pos (show iI (-9) = -9 from rfl), zc_in (by omega) (by omega) (by omega), zj_eq, iI_natN (by omega), hb i hi, hci.mpr g, if_pos rfl, ht, zb1_eq, if_pos (by decide), li_1, iI_add]; rfl
              · intro i' h1 h2
                rcases (show i' < i ∨ i' = i by omega) with s | s
                · exact h i' s h2
                · rw [s]; exact t
          · refine Or.inl ⟨(iI ((i + 1 : Nat) : Int), f, M), ?_, rfl, Or.inl ⟨e2, rfl, ?_⟩⟩
            · show fX7_spreads_L21 (iI (nu ρ k)) (iI a) x f M2 = _
              have hne : lab ρ k L i ≠ (nu ρ k : Int) := fun e => g (hci.mp e)
              unfold fX7_spreads_L21
              rw [e1, e3, hM.1, fle_n (by omega) (by omega) (by omega), zc_in (by omega) (by omega) (by omega), iI_natN (by omega), hb a ha, q, if_pos (show iI (-9) = -9 from rfl), zc_in (by omega) (by omega) (by omega), zj_eq, iI_natN (by omega), hb i hi, feq_n (by omega) (by omega) (by omega), li_1, iI_add]; rfl
            · intro i' h1 h2
              rcases (show i' < i ∨ i' = i by omega) with s | s
              · exact h i' s h2
              · rw [s] at h2; exact absurd h2 g
        · refine Or.inr ⟨(x, f, M2), ?_, x, f, M2, rfl, L, by rw [e3]; exact hb, by rw [e3]; exact o73_rf, Or.inl ⟨rfl, e2, fun g1 g2 => absurd (lab_9.mpr ⟨g1, g2⟩) q⟩⟩
          show fX7_spreads_L21 (iI (nu ρ k)) (iI a) x f M2 = _
          unfold fX7_spreads_L21
          rw [e1, e3, hM.1, fle_n (by omega) (by omega) (by omega), zc_in (by omega) (by omega) (by omega), iI_natN (by omega), hb a ha, show (-9 : Int32) = iI (-9) from rfl, feq_n (by omega) (by omega) (by omega)]
      · refine Or.inr ⟨(x, f, M2), ?_, x, f, M2, rfl, uB L a, by rw [e3]; exact hB h4 h5, by rw [e3]; exact fun c k' hc => zwr_o hc, Or.inr ⟨h4, rfl, e2, h5⟩⟩
        show fX7_spreads_L21 (iI (nu ρ k)) (iI a) x f M2 = _
        unfold fX7_spreads_L21
        rw [e1, e3, zwr_o (by decide), hM.1, fle_n (by omega) (by omega) (by omega), zc_in (by omega) (by omega) (by omega), iI_natN (by omega), zwr_s, show (-9 : Int32) = iI (-9) from rfl, feq_n (by omega) (by omega) (by omega)]
    · rintro ⟨x, f, M2⟩ ⟨e1, h⟩
      dsimp only at e1 h
      have he : ∀ M3 : zMem, M3 60 13 = iI (nR P w) → fX7_spreads_L21 (iI (nu ρ k)) (iI a) x f M3 = some (.inr (x, f, M3)) := by
        intro M3 h3
        unfold fX7_spreads_L21
        rw [e1, h3, fle_p (by omega) (by omega) (by omega)]
      rcases h with ⟨e2, e3, h⟩ | ⟨e2, e3, h4, h5⟩
      · exact ⟨(x, f, M2), he M2 (by rw [e3]; exact hM.1), x, f, M2, rfl, L, by rw [e3]; exact hb, by rw [e3]; exact o73_rf, Or.inl ⟨rfl, e2, fun _ _ i hi => h i hi⟩⟩
      · exact ⟨(x, f, M2), he M2 (by rw [e3, zwr_o (by decide)]; exact hM.1), x, f, M2, rfl, uB L a, by rw [e3]; exact hB h4 h5, by rw [e3]; exact fun c k' hc => zwr_o hc, Or.inr ⟨h4, rfl, e2, h5⟩⟩
  exact ⟨x, f', M', L', hzb, h1, h2, h3⟩
