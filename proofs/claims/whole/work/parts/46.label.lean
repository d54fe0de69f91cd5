/-! passes of the flood, and the labels -/
def clo (P : Nat → Nat → Bool) (w : Nat) (ρ : Nat → Nat) (k : Nat) (L : Nat → Bool) (n : Nat) : Prop := ∀ a, a < n → k ≤ ρ a → L a = false → ∀ i, i < nR P w → L i = true → ¬ tc P w a i
theorem ct_uB {L : Nat → Bool} {a n : Nat} (ha : a < n) (h : L a = false) : fb_ct (uB L a) n = fb_ct L n + 1 := by
  have := fb_ct_upd L true ha
  rw [if_neg (by rw [h]; decide), if_pos rfl] at this
  exact this
theorem r_pass {M : zMem} {P : Nat → Nat → Bool} {w k : Nat} {ρ : Nat → Nat} {L : Nat → Bool} (hw : w ≤ 24) (hM : rRF P w M) (hρ : rOK P w ρ) (hk : k < nR P w) (hL : ∀ j, L j = true → ρ j = k) (hb : rLb P w ρ M k L) :
    ∃ x f' M' L', zlp (zu3 (fX7_spreads_L10 (iI (nu ρ k)))) zfu (iI 0, iI 0, M) = some (x, f', M') ∧ rLb P w ρ M' k L' ∧ o73 M M' ∧ (∀ j, L' j = true → ρ j = k) ∧ (∀ j, L j = true → L' j = true) ∧ ((f' = iI 0 ∧ clo P w ρ k L' (nR P w)) ∨ (f' = iI 1 ∧ fb_ct L (nR P w) < fb_ct L' (nR P w))) := by
  have hN := nR_le P hw
  obtain ⟨b, hzb, x, f', M', rfl, L', h1, h2, h3, h4, h5⟩ : ∃ b, zlp (zu3 (fX7_spreads_L10 (iI (nu ρ k)))) zfu (iI 0, iI 0, M) = some b ∧ ∃ x f' M', b = (x, f', M') ∧ ∃ L', rLb P w ρ M' k L' ∧ o73 M M' ∧ (∀ j, L' j = true → ρ j = k) ∧ (∀ j, L j = true → L' j = true) ∧ ((f' = iI 0 ∧ clo P w ρ k L' (nR P w)) ∨ (f' = iI 1 ∧ fb_ct L (nR P w) < fb_ct L' (nR P w))) := by
    refine zlp_inv (I := fun a p => p.1 = iI (a : Int) ∧ ∃ L', rLb P w ρ p.2.2 k L' ∧ o73 M p.2.2 ∧ (∀ j, L' j = true → ρ j = k) ∧ (∀ j, L j = true → L' j = true) ∧ ((p.2.1 = iI 0 ∧ L' = L ∧ clo P w ρ k L a) ∨ (p.2.1 = iI 1 ∧ fb_ct L (nR P w) < fb_ct L' (nR P w)))) _ (nR P w) (by omega) ⟨rfl, L, hb, o73_rf, hL, fun _ h => h, Or.inl ⟨rfl, rfl, fun a h => absurd h (by omega)⟩⟩ ?_ ?_
    · rintro a ⟨x, f, M2⟩ ha ⟨e1, L2, b2, o2, l2, s2, h⟩
      dsimp only at e1 b2 o2 h
      obtain ⟨x3, f3, M3, L3, e3, b3, o3, h3⟩ := r_sp1 (f0 := f) hw (rRF_o hM o2) hρ hk ha l2 b2
      refine Or.inl ⟨(iI ((a + 1 : Nat) : Int), f3, M3), ?_, rfl, L3, b3, o73_tr o2 o3, ?_, ?_, ?_⟩
      · show fX7_spreads_L10 (iI (nu ρ k)) x f M2 = _
        unfold fX7_spreads_L10
        rw [e1, (rRF_o hM o2).1, fle_n (by omega) (by omega) (by omega), li_0, e3, zb1_eq, li_1, iI_add]; rfl
      · rcases h3 with ⟨q1, -, -⟩ | ⟨q1, q2, q3, q4⟩
        · rw [q1]; exact l2
        · rw [q2]
          intro j hj
          unfold uB at hj
          by_cases g : j = a
          · rw [g]; exact q4
          · rw [if_neg g] at hj; exact l2 j hj
      · rcases h3 with ⟨q1, -, -⟩ | ⟨q1, q2, q3, q4⟩
        · rw [q1]; exact s2
        · rw [q2]
          intro j hj
          unfold uB
          by_cases g : j = a
          · rw [if_pos g]
          · rw [if_neg g]; exact s2 j hj
      · dsimp only
        rcases h3 with ⟨q1, q2, q3⟩ | ⟨q1, q2, q3, q4⟩
        · rw [q1, q2]
          rcases h with ⟨h1, h2, h4⟩ | h
          · refine Or.inl ⟨h1, h2, ?_⟩
            intro a' ha' 
            rcases (show a' < a ∨ a' = a by omega) with g | g
            · exact h4 a' g
            · rw [g, ← h2]; exact q3
          · exact Or.inr h
        · right
          refine ⟨q3, ?_⟩
          rw [q2, ct_uB ha q1]
          rcases h with ⟨h1, h2, h4⟩ | h
          · rw [h2]; omega
          · have := h.2; omega
    · rintro ⟨x, f, M2⟩ ⟨e1, L2, b2, o2, l2, s2, h⟩
      dsimp only at e1 b2 o2 h
      refine ⟨(x, f, M2), ?_, x, f, M2, rfl, L2, b2, o2, l2, s2, ?_⟩
      · show fX7_spreads_L10 (iI (nu ρ k)) x f M2 = _
        unfold fX7_spreads_L10
        rw [e1, (rRF_o hM o2).1, fle_p (by omega) (by omega) (by omega)]
      · rcases h with ⟨h1, h2, h4⟩ | h
        · rw [h2]; exact Or.inl ⟨h1, h4⟩
        · exact Or.inr h
  exact ⟨x, f', M', L', hzb, h1, h2, h3, h4, h5⟩
theorem r_spreads {M : zMem} {P : Nat → Nat → Bool} {w k : Nat} {ρ : Nat → Nat} {L : Nat → Bool} (hw : w ≤ 24) (hM : rRF P w M) (hρ : rOK P w ρ) (hk : k < nR P w) (hL : ∀ j, L j = true → ρ j = k) (hLk : L k = true) (hb : rLb P w ρ M k L) :
    ∃ M' L', fX7_spreads (iI (nu ρ k)) M = some M' ∧ rLb P w ρ M' k L' ∧ o73 M M' ∧ (∀ j, L' j = true → ρ j = k) ∧ L' k = true ∧ clo P w ρ k L' (nR P w) := by
  have hN := nR_le P hw
  obtain ⟨b, hzb, x, M', rfl, L', h1, h2, h3, h4, h5⟩ : ∃ b, zlp (zu2 (fX7_spreads_L2 (iI (nu ρ k)))) zfu (iI 1, M) = some b ∧ ∃ x M', b = (x, M') ∧ ∃ L', rLb P w ρ M' k L' ∧ o73 M M' ∧ (∀ j, L' j = true → ρ j = k) ∧ L' k = true ∧ clo P w ρ k L' (nR P w) := by
    refine zlp_inv (I := fun t p => ∃ L', rLb P w ρ p.2 k L' ∧ o73 M p.2 ∧ (∀ j, L' j = true → ρ j = k) ∧ L' k = true ∧ ((p.1 = iI 0 ∧ clo P w ρ k L' (nR P w)) ∨ (p.1 = iI 1 ∧ t ≤ fb_ct L' (nR P w)))) _ (nR P w + 1) (by omega) ⟨L, hb, o73_rf, hL, hLk, Or.inr ⟨rfl, Nat.zero_le _⟩⟩ ?_ ?_
    · rintro t ⟨x, M2⟩ ht ⟨L2, b2, o2, l2, k2, h⟩
      dsimp only at b2 o2 h
      rcases h with ⟨q1, q2⟩ | ⟨q1, q2⟩
      · refine Or.inr ⟨(x, M2), ?_, x, M2, rfl, L2, b2, o2, l2, k2, q2⟩
        show fX7_spreads_L2 (iI (nu ρ k)) x M2 = _
        unfold fX7_spreads_L2
        rw [q1, if_pos (by decide)]
      · obtain ⟨x3, f3, M3, L3, e3, b3, o3, l3, s3, h3⟩ := r_pass hw (rRF_o hM o2) hρ hk l2 b2
        refine Or.inl ⟨(f3, M3), ?_, L3, b3, o73_tr o2 o3, l3, s3 k k2, ?_⟩
        · show fX7_spreads_L2 (iI (nu ρ k)) x M2 = _
          unfold fX7_spreads_L2
          rw [q1, if_neg (by decide), li_0, e3, zb1_eq]
        · dsimp only
          rcases h3 with h3 | ⟨g1, g2⟩
          · exact Or.inl h3
          · exact Or.inr ⟨g1, by omega⟩
    · rintro ⟨x, M2⟩ ⟨L2, b2, o2, l2, k2, h⟩
      dsimp only at b2 o2 h
      rcases h with ⟨q1, q2⟩ | ⟨q1, q2⟩
      · refine ⟨(x, M2), ?_, x, M2, rfl, L2, b2, o2, l2, k2, q2⟩
        show fX7_spreads_L2 (iI (nu ρ k)) x M2 = _
        unfold fX7_spreads_L2
        rw [q1, if_pos (by decide)]
      · have := fb_ct_le L2 (nR P w); omega
  refine ⟨M', L', ?_, h1, h2, h3, h4, h5⟩
  unfold fX7_spreads
  rw [li_1, hzb, zb1_eq]
theorem clo_all {P : Nat → Nat → Bool} {w k : Nat} {ρ : Nat → Nat} {L : Nat → Bool} (hρ : rOK P w ρ) (hL : ∀ j, L j = true → ρ j = k) (hk : L k = true) (hc : clo P w ρ k L (nR P w)) {j : Nat} (hj : ρ j = k) : L j = true := by
  have h := (hρ.1 j).2.2
  rw [hj] at h
  refine (h (fun x => L x = true) ?_).mp hk
  have half : ∀ i j, i < nR P w → j < nR P w → tc P w i j → L i = true → L j = true := by
    intro i j hi hj ht hl
    cases e : L j with
    | true => rfl
    | false =>
      have r1 := hρ.2 i j hi hj ht
      have r2 := hL i hl
      exact absurd (tc_sy ht) (hc j hj (by omega) e i hi hl)
  intro i j hi hj ht
  exact ⟨half i j hi hj ht, half j i hj hi (tc_sy ht)⟩
def lb (ρ : Nat → Nat) (k j : Nat) : Int := if ρ j < k then (nu ρ (ρ j) : Int) else -9
def rSt (P : Nat → Nat → Bool) (w : Nat) (M : zMem) (ρ : Nat → Nat) : Prop := rRF P w M ∧ M 60 18 = iI (nu ρ (nR P w)) ∧ ∀ j, j < nR P w → M 73 j = iI (nu ρ (ρ j))
def rFo (M M' : zMem) : Prop := ∀ c k, (c ≠ 60 ∨ k ≠ 18) → c ≠ 73 → M' c k = M c k
theorem r_strokes {M : zMem} {P : Nat → Nat → Bool} {w : Nat} {ρ : Nat → Nat} (hw : w ≤ 24) (hM : rRF P w M) (hρ : rOK P w ρ) (h9 : ∀ j, j < nR P w → M 73 j = iI (-9)) : ∃ x M', zlp (zu2 fX7_findStrokes_L11) zfu (iI 0, zwr M 60 18 (iI 0)) = some (x, M') ∧ rSt P w M' ρ ∧ rFo M M' := by
  have hN := nR_le P hw
  obtain ⟨b, hzb, x, M', rfl, h1, h2, h3⟩ : ∃ b, zlp (zu2 fX7_findStrokes_L11) zfu (iI 0, zwr M 60 18 (iI 0)) = some b ∧ ∃ x M', b = (x, M') ∧ M' 60 18 = iI (nu ρ (nR P w)) ∧ (∀ j, j < nR P w → M' 73 j = iI (lb ρ (nR P w) j)) ∧ rFo M M' := by
    refine zlp_inv (I := fun k p => p.1 = iI (k : Int) ∧ p.2 60 18 = iI (nu ρ k) ∧ (∀ j, j < nR P w → p.2 73 j = iI (lb ρ k j)) ∧ rFo M p.2) _ (nR P w) (by omega) ⟨rfl, by dsimp only; rw [zwr_s]; rfl, fun j hj => ?_, fun c k a1 a2 => ?_⟩ ?_ ?_
    · dsimp only; rw [zwr_o (by decide), h9 j hj]; unfold lb; rw [if_neg (by omega)]
    · dsimp only
      rcases Classical.em (c = 60) with e | e
      · subst e; rw [zwr_k (by omega)]
      · rw [zwr_o e]
    · rintro k ⟨x, M2⟩ hk ⟨e1, c2, t2, f2⟩
      dsimp only at e1 c2 t2 f2
      have hM2 : rRF P w M2 := ⟨by rw [f2 _ _ (by decide) (by decide)]; exact hM.1, fun j hj => by rw [f2 _ _ (by omega) (by decide), f2 _ _ (by omega) (by decide), f2 _ _ (by omega) (by decide)]; exact hM.2 j hj⟩
      obtain ⟨r1, r2, r3⟩ := hρ.1 k
      have hnk := nu_le ρ k
      have hnr := nu_le ρ (ρ k)
      by_cases q : ρ k = k
      · have hlk : lb ρ k k = -9 := by unfold lb; rw [if_neg (by omega)]
        have hM3 : rRF P w (zwr M2 73 k (iI (nu ρ k))) := rRF_o hM2 (fun c k' hc => zwr_o hc)
        have hb3 : rLb P w ρ (zwr M2 73 k (iI (nu ρ k))) k (fun j => decide (j = k)) := by
          intro j hj
          unfold lab
          by_cases g : j = k
          · rw [g, zwr_s, if_neg (by omega), if_pos (decide_eq_true rfl)]
          · rw [zwr_k g, t2 j hj]; unfold lb; rw [if_neg (show ¬ decide (j = k) = true by rw [decide_eq_true_iff]; exact g)]
        obtain ⟨M4, L4, e4, b4, o4, l4, k4, c4⟩ := r_spreads hw hM3 hρ hk (fun j hj => by rw [decide_eq_true_iff] at hj; rw [hj]; exact q) (decide_eq_true rfl) hb3
        have m18 : M4 60 18 = iI (nu ρ k) := by rw [o4 _ _ (by decide), zwr_o (by decide)]; exact c2
        refine Or.inl ⟨(iI ((k + 1 : Nat) : Int), zwr M4 60 18 (iI (nu ρ k + 1))), ?_, rfl, ?_, ?_, ?_⟩
        · show fX7_findStrokes_L11 x M2 = _
          unfold fX7_findStrokes_L11
          rw [e1, hM2.1, fle_n (by omega) (by omega) (by omega), zc_in (by omega) (by omega) (by omega), iI_natN (by omega), zj_eq, t2 k hk, hlk, if_pos (show iI (-9) = -9 from rfl), zc_in (by omega) (by omega) (by omega), zn_eq, c2, zwr_o (by decide), c2, e4, zb1_eq, zn_eq, m18, li_1, iI_add, iI_add]; rfl
        · dsimp only; rw [zwr_s, nu_in ρ k q]; rfl
        · intro j hj
          dsimp only
          rw [zwr_o (by decide), b4 j hj]
          unfold lab lb
          by_cases g : ρ j < k
          · rw [if_pos g, if_pos (by omega)]
          · rw [if_neg g]
            by_cases s : ρ j = k
            · rw [if_pos (clo_all hρ l4 k4 c4 s), if_pos (by omega), s]
            · rw [if_neg (fun h => s (l4 j h)), if_neg (by omega)]
        · intro c k' a1 a2
          dsimp only
          rcases Classical.em (c = 60) with e | e
          · subst e; rw [zwr_k (by omega), o4 _ _ a2, zwr_o a2]; exact f2 _ _ a1 a2
          · rw [zwr_o e, o4 _ _ a2, zwr_o a2]; exact f2 _ _ a1 a2
      · have hlk : lb ρ k k = (nu ρ (ρ k) : Int) := by unfold lb; rw [if_pos (by omega)]
        refine Or.inl ⟨(iI ((k + 1 : Nat) : Int), M2), ?_, rfl, ?_, ?_, f2⟩
        · show fX7_findStrokes_L11 x M2 = _
          unfold fX7_findStrokes_L11
          rw [e1, hM2.1, fle_n (by omega) (by omega) (by omega), zc_in (by omega) (by omega) (by omega), iI_natN (by omega), zj_eq, t2 k hk, hlk, show (-9 : Int32) = iI (-9) from rfl, feq_n (by omega) (by omega) (by omega), li_1, iI_add]; rfl
        · dsimp only; rw [nu_out ρ k q]; exact c2
        · intro j hj
          dsimp only
          rw [t2 j hj]
          unfold lb
          by_cases g : ρ j < k
          · rw [if_pos g, if_pos (by omega)]
          · rw [if_neg g, if_neg (by intro h; have h1 : ρ j = k := by omega
                                     have h2 := (hρ.1 j).2.1
                                     rw [h1] at h2; exact q h2)]
    · rintro ⟨x, M2⟩ ⟨e1, c2, t2, f2⟩
      dsimp only at e1 c2 t2 f2
      refine ⟨(x, M2), ?_, x, M2, rfl, c2, t2, f2⟩
      show fX7_findStrokes_L11 x M2 = _
      unfold fX7_findStrokes_L11
      rw [e1, f2 _ _ (by decide) (by decide), hM.1, fle_p (by omega) (by omega) (by omega)]
  refine ⟨x, M', hzb, ⟨⟨by rw [h3 _ _ (by decide) (by decide)]; exact hM.1, fun j hj => by rw [h3 _ _ (by omega) (by decide), h3 _ _ (by omega) (by decide), h3 _ _ (by omega) (by decide)]; exact hM.2 j hj⟩, h1, fun j hj => ?_⟩, h3⟩
  rw [h2 j hj]
  unfold lb
  have := (hρ.1 j).1
  rw [if_pos (by omega)]
theorem r_find {M : zMem} {P : Nat → Nat → Bool} {w : Nat} {ρ : Nat → Nat} (hP : rPg M w P) (hρ : rOK P w ρ) : ∃ M', fX7_findStrokes M = some M' ∧ rSt P w M' ρ ∧ Ag M M' := by
  obtain ⟨M1, e1, t1, o1⟩ := r_runs hP
  obtain ⟨x, M2, e2, t2, o2⟩ := r_strokes hP.2.1 (rRF_of t1) hρ (fun j hj => (t1.2 j hj).2.2.2)
  refine ⟨M2, ?_, t2, Ag_tr (rRo_ag o1) (fun c k hk => o2 c k (by rcases Classical.em (c = 60 ∧ k = 18) with ⟨e1, e2⟩ | e; (rw [e1, e2] at hk; simp [relv] at hk); omega) (by intro e; rw [e] at hk; simp [relv] at hk))⟩
  unfold fX7_findStrokes
  rw [e1, zb1_eq, zn_eq, li_0, e2, zb1_eq]
