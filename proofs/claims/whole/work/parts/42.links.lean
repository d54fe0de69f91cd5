/-! the class's strokes -/
def cn (P : Nat → Nat → Bool) (w x y : Nat) : Prop := ∀ C : Nat → Prop, (∀ i j, i < nR P w → j < nR P w → tc P w i j → (C i ↔ C j)) → (C x ↔ C y)
theorem cn_rf {P : Nat → Nat → Bool} {w x : Nat} : cn P w x x := fun _ _ => Iff.rfl
theorem cn_sy {P : Nat → Nat → Bool} {w x y : Nat} (h : cn P w x y) : cn P w y x := fun C hC => (h C hC).symm
theorem cn_tr {P : Nat → Nat → Bool} {w x y z : Nat} (h1 : cn P w x y) (h2 : cn P w y z) : cn P w x z := fun C hC => (h1 C hC).trans (h2 C hC)
def uOK (P : Nat → Nat → Bool) (w : Nat) (M : zMem) (n : Nat) (l ρ : Nat → Nat) : Prop := cLk M n l ∧ ufO l ρ ∧ (∀ j, n ≤ j → l j = j) ∧ ∀ j, cn P w (ρ j) j
def grw (ρ ρ' : Nat → Nat) : Prop := ∀ i j, ρ i = ρ j → ρ' i = ρ' j
theorem cn_jn {P : Nat → Nat → Bool} {w a b : Nat} {ρ : Nat → Nat} (h : ∀ j, cn P w (ρ j) j) (hab : cn P w a b) (j : Nat) : cn P w (jn ρ a b j) j := by
  have hr : cn P w (ρ a) (ρ b) := cn_tr (h a) (cn_tr hab (cn_sy (h b)))
  unfold jn
  by_cases q : ρ a ≤ ρ b
  · rw [if_pos q, if_pos q]
    by_cases e : ρ j = ρ b
    · rw [if_pos e]; exact cn_tr hr (by rw [← e]; exact h j)
    · rw [if_neg e]; exact h j
  · rw [if_neg q, if_neg q]
    by_cases e : ρ j = ρ a
    · rw [if_pos e]; exact cn_tr (cn_sy hr) (by rw [← e]; exact h j)
    · rw [if_neg e]; exact h j
def cRF (P : Nat → Nat → Bool) (w : Nat) (M : zMem) (n : Nat) : Prop := M 26 5 = iI n ∧ ∀ j, j < n → M 27 j = iI (roR P w j) ∧ M 28 j = iI (fiR P w j) ∧ M 29 j = iI (laR P w j)
theorem nR_le (P : Nat → Nat → Bool) {w : Nat} (hw : w ≤ 24) : nR P w ≤ 384 := by
  have := (ral_iv P hw 32 (by omega)).2.1
  unfold nR; omega
theorem R_bd (P : Nat → Nat → Bool) {w : Nat} (hw : w ≤ 24) {j : Nat} (hj : j < nR P w) : roR P w j < 32 ∧ fiR P w j ≤ laR P w j ∧ laR P w j < 24 := (ral_iv P hw 32 (by omega)).2.2.2.2.1 j hj
theorem ral_nR (P : Nat → Nat → Bool) {w : Nat} (hw : w ≤ 24) {r : Nat} (hr : r ≤ 32) : (ral P w r).1 ≤ nR P w ∧ ∀ j, j < (ral P w r).1 → roR P w j = (ral P w r).2.1 j ∧ fiR P w j = (ral P w r).2.2.1 j ∧ laR P w j = (ral P w r).2.2.2 j := by
  have h := ral_sm P hw r (32 - r) (by omega)
  rw [show r + (32 - r) = 32 by omega] at h
  exact h
theorem cRF_of {P : Nat → Nat → Bool} {w r : Nat} {M : zMem} (hw : w ≤ 24) (hr : r ≤ 32) (h : cRn M (ral P w r)) : cRF P w M (ral P w r).1 := by
  refine ⟨h.1, fun j hj => ?_⟩
  have g := (ral_nR P hw hr).2 j hj
  rw [g.1, g.2.1, g.2.2]
  exact h.2 j hj
theorem c_link1 {M : zMem} {P : Nat → Nat → Bool} {w n a B : Nat} {l ρ : Nat → Nat} (hw : w ≤ 24) (hn : n ≤ nR P w) (hM : cRF P w M n) (hu : uOK P w M n l ρ) (ha : a < B) (hB : B ≤ n) (hro : ∀ b, B ≤ b → b < n → roR P w a + 1 = roR P w b) : ∃ x M' l' ρ', zlp (zu2 (fX5_linkRows_L10 (iI a))) zfu (iI B, M) = some (x, M') ∧ uOK P w M' n l' ρ' ∧ grw ρ ρ' ∧ (∀ b, B ≤ b → b < n → tc P w a b → ρ' a = ρ' b) ∧ ∀ c k, c ≠ 30 → M' c k = M c k := by
  have hN := nR_le P hw
  obtain ⟨b, hb, x, M', rfl, l', ρ', h1, h2, h3, h4⟩ : ∃ b, zlp (zu2 (fX5_linkRows_L10 (iI a))) zfu (iI B, M) = some b ∧ ∃ x M', b = (x, M') ∧ ∃ l' ρ', uOK P w M' n l' ρ' ∧ grw ρ ρ' ∧ (∀ b, B ≤ b → b < n → tc P w a b → ρ' a = ρ' b) ∧ ∀ c k, c ≠ 30 → M' c k = M c k := by
    refine zlp_inv (I := fun i p => p.1 = iI ((B + i : Nat) : Int) ∧ ∃ l' ρ', uOK P w p.2 n l' ρ' ∧ grw ρ ρ' ∧ (∀ b, B ≤ b → b < B + i → tc P w a b → ρ' a = ρ' b) ∧ ∀ c k, c ≠ 30 → p.2 c k = M c k) _ (n - B) (by omega) ⟨rfl, l, ρ, hu, fun _ _ e => e, fun b b1 b2 => absurd b2 (by omega), fun _ _ _ => rfl⟩ ?_ ?_
    · rintro i ⟨x, M2⟩ hi ⟨e1, l2, ρ2, u2, g2, t2, f2⟩
      dsimp only at e1 u2 f2
      obtain ⟨b, eb⟩ : ∃ b, b = B + i := ⟨_, rfl⟩
      rw [← eb] at e1 t2
      obtain ⟨a1, a2, a3⟩ := R_bd P hw (show a < nR P w by omega)
      obtain ⟨b1, b2, b3⟩ := R_bd P hw (show b < nR P w by omega)
      have m5 : M2 26 5 = iI n := by rw [f2 _ _ (by decide)]; exact hM.1
      have ma := hM.2 a (by omega)
      have mb := hM.2 b (by omega)
      have hro' := hro b (by omega) (by omega)
      by_cases q : fiR P w a ≤ laR P w b + 1 ∧ fiR P w b ≤ laR P w a + 1
      · have ht : tc P w a b := ⟨Or.inl hro', q⟩
        obtain ⟨l3, u3, M3, e3, k3, o3, i3⟩ := c_join (by omega) m5 u2.1 u2.2.1 (show a < n by omega) (show b < n by omega)
        refine Or.inl ⟨(iI ((B + (i + 1) : Nat) : Int), M3), ?_, rfl, l3, jn ρ2 a b, ⟨k3, u3, fun j hj => i3 j hj (u2.2.2.1 j hj), cn_jn u2.2.2.2 (fun C hC => hC a b (by omega) (by omega) ht)⟩, fun i j e => jn_keep (g2 i j e), ?_, fun c k hc => (o3 c k hc).trans (f2 c k hc)⟩
        · show fX5_linkRows_L10 (iI a) x M2 = _
          unfold fX5_linkRows_L10
          rw [e1, m5, fle_n (by omega) (by omega) (by omega), zc_in (by omega) (by omega) (by omega), zc_in (by omega) (by omega) (by omega), iI_natN (by omega), iI_natN (by omega), f2 29 b (by decide), f2 28 a (by decide), f2 29 a (by decide), f2 28 b (by decide), ma.2.1, ma.2.2, mb.2.1, mb.2.2, li_1, iI_add, iI_add, iI_add, zj_eq, flt_n (by omega) (by omega) (by omega), zc_in (by omega) (by omega) (by omega), zc_in (by omega) (by omega) (by omega), flt_n (by omega) (by omega) (by omega), e3, zb1_eq, show ((B + (i + 1) : Nat) : Int) = (b : Int) + 1 by omega]
        · intro b' c1 c2 c3
          rcases (show b' < b ∨ b' = b by omega) with g | g
          · exact jn_keep (t2 b' c1 g c3)
          · rw [g]; exact jn_ab ρ2 a b
      · refine Or.inl ⟨(iI ((B + (i + 1) : Nat) : Int), M2), ?_, rfl, l2, ρ2, u2, g2, ?_, f2⟩
        · show fX5_linkRows_L10 (iI a) x M2 = _
          unfold fX5_linkRows_L10
          rw [e1, m5, fle_n (by omega) (by omega) (by omega), zc_in (by omega) (by omega) (by omega), zc_in (by omega) (by omega) (by omega), iI_natN (by omega), iI_natN (by omega), f2 29 b (by decide), f2 28 a (by decide), f2 29 a (by decide), f2 28 b (by decide), ma.2.1, ma.2.2, mb.2.1, mb.2.2, li_1, iI_add, iI_add, iI_add, zj_eq]
          by_cases g : laR P w b + 1 < fiR P w a
          · rw [flt_p (by omega) (by omega) (by omega), show ((B + (i + 1) : Nat) : Int) = (b : Int) + 1 by omega]
          · rw [flt_n (by omega) (by omega) (by omega), zc_in (by omega) (by omega) (by omega), zc_in (by omega) (by omega) (by omega), flt_p (by omega) (by omega) (by omega), show ((B + (i + 1) : Nat) : Int) = (b : Int) + 1 by omega]
        · intro b' c1 c2 c3
          rcases (show b' < b ∨ b' = b by omega) with g | g
          · exact t2 b' c1 g c3
          · rw [g] at c3; exact absurd c3.2 q
    · rintro ⟨x, M2⟩ ⟨e1, l2, ρ2, u2, g2, t2, f2⟩
      dsimp only at e1 u2 f2
      rw [show B + (n - B) = n by omega] at e1 t2
      refine ⟨(x, M2), ?_, x, M2, rfl, l2, ρ2, u2, g2, t2, f2⟩
      show fX5_linkRows_L10 (iI a) x M2 = _
      unfold fX5_linkRows_L10
      rw [e1, f2 _ _ (by decide), hM.1, fle_p (by omega) (by omega) (by omega)]
  exact ⟨x, M', l', ρ', hb, h1, h2, h3, h4⟩
theorem cRF_o {M M' : zMem} {P : Nat → Nat → Bool} {w n : Nat} (h : cRF P w M n) (ho : ∀ c k, c ≠ 30 → M' c k = M c k) : cRF P w M' n := ⟨by rw [ho _ _ (by decide)]; exact h.1, fun j hj => by rw [ho _ _ (by decide), ho _ _ (by decide), ho _ _ (by decide)]; exact h.2 j hj⟩
theorem c_links {M : zMem} {P : Nat → Nat → Bool} {w n A B : Nat} {l ρ : Nat → Nat} (hw : w ≤ 24) (hn : n ≤ nR P w) (hM : cRF P w M n) (hu : uOK P w M n l ρ) (hA : A ≤ B) (hB : B ≤ n) (hro : ∀ a b, A ≤ a → a < B → B ≤ b → b < n → roR P w a + 1 = roR P w b) : ∃ M' l' ρ', fX5_linkRows (iI A) (iI B) M = some M' ∧ uOK P w M' n l' ρ' ∧ grw ρ ρ' ∧ (∀ a b, A ≤ a → a < B → B ≤ b → b < n → tc P w a b → ρ' a = ρ' b) ∧ ∀ c k, c ≠ 30 → M' c k = M c k := by
  have hN := nR_le P hw
  obtain ⟨b, hb, x, M', rfl, l', ρ', h1, h2, h3, h4⟩ : ∃ b, zlp (zu2 (fX5_linkRows_L2 (iI B))) zfu (iI A, M) = some b ∧ ∃ x M', b = (x, M') ∧ ∃ l' ρ', uOK P w M' n l' ρ' ∧ grw ρ ρ' ∧ (∀ a b, A ≤ a → a < B → B ≤ b → b < n → tc P w a b → ρ' a = ρ' b) ∧ ∀ c k, c ≠ 30 → M' c k = M c k := by
    refine zlp_inv (I := fun i p => p.1 = iI ((A + i : Nat) : Int) ∧ ∃ l' ρ', uOK P w p.2 n l' ρ' ∧ grw ρ ρ' ∧ (∀ a b, A ≤ a → a < A + i → B ≤ b → b < n → tc P w a b → ρ' a = ρ' b) ∧ ∀ c k, c ≠ 30 → p.2 c k = M c k) _ (B - A) (by omega) ⟨rfl, l, ρ, hu, fun _ _ e => e, fun a b _ b2 => absurd b2 (by omega), fun _ _ _ => rfl⟩ ?_ ?_
    · rintro i ⟨x, M2⟩ hi ⟨e1, l2, ρ2, u2, g2, t2, f2⟩
      dsimp only at e1 u2 f2
      obtain ⟨x3, M3, l3, ρ3, e3, u3, g3, t3, f3⟩ := c_link1 (a := A + i) (B := B) hw hn (cRF_o hM f2) u2 (by omega) hB (fun b b1 b2 => hro _ _ (by omega) (by omega) b1 b2)
      refine Or.inl ⟨(iI ((A + (i + 1) : Nat) : Int), M3), ?_, rfl, l3, ρ3, u3, fun i j e => g3 i j (g2 i j e), ?_, fun c k hc => (f3 c k hc).trans (f2 c k hc)⟩
      · show fX5_linkRows_L2 (iI B) x M2 = _
        unfold fX5_linkRows_L2
        rw [e1, fle_n (by omega) (by omega) (by omega), e3, zb1_eq, li_1, iI_add]; rfl
      · intro a b a1 a2 b1 b2 ht
        rcases (show a < A + i ∨ a = A + i by omega) with g | g
        · exact g3 _ _ (t2 a b a1 g b1 b2 ht)
        · rw [g] at ht ⊢; exact t3 b b1 b2 ht
    · rintro ⟨x, M2⟩ ⟨e1, l2, ρ2, u2, g2, t2, f2⟩
      dsimp only at e1 u2 f2
      rw [show A + (B - A) = B by omega] at e1 t2
      refine ⟨(x, M2), ?_, x, M2, rfl, l2, ρ2, u2, g2, t2, f2⟩
      show fX5_linkRows_L2 (iI B) x M2 = _
      unfold fX5_linkRows_L2
      rw [e1, fle_p (by omega) (by omega) (by omega)]
  refine ⟨M', l', ρ', ?_, h1, h2, h3, h4⟩
  unfold fX5_linkRows
  rw [hb, zb1_eq]
