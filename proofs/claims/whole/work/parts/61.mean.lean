/-! mean -/
theorem Ag_25 {M M' : zMem} (h : ∀ c k, (c ≠ 60 ∨ k ≠ 25) → M' c k = M c k) : Ag M M' := fun c k hk => h c k (by rcases Classical.em (c = 60 ∧ k = 25) with ⟨e1, e2⟩ | e; (rw [e1, e2] at hk; simp [relv] at hk); omega)
theorem near_0 (b : Int64) (p q : Int32) : fX1_nearest (lL 0) b p q = some 0 := by
  unfold fX1_nearest
  rw [if_pos (by rw [lg_cmp_le]; exact Int64.le_refl _)]
theorem st_mean {M : zMem} (h : Rl M) (F0 : Int64) : ∃ o M1 M2 F2, fX6_mean M = some (o, M1) ∧ fX7_mean M1 F0 = some (o, M2, F2) ∧ Rl M2 := by
  have hR := h
  obtain ⟨⟨w, P, h1, h2, -⟩, -⟩ := h
  have hw := h1.2.1
  obtain ⟨L, F, pt, M1, e1, t1, o1, hL, hF, hpt, M2, e2, t2, o2⟩ := st_base h1 h2
  have hR2 : Rl M2 := Rl_ag (Rl_ag hR (cBo_ag o1)) (rLo_ag o2)
  have n1 := t1.1
  have n2 := t2.1
  rcases Nat.eq_zero_or_pos L with z | z
  · subst z
    refine ⟨-9223372036854775808, M1, M2, F0, ?_, ?_, hR2⟩
    · unfold fX6_mean fX0_length
      rw [e1, zb1_eq, zb1_eq, n1, zj_eq, if_pos (by decide)]
    · unfold fX7_mean
      rw [e2, zb1_eq, n2, if_pos (by decide)]
  · have hF' := hF z
    have hs := si_bd L hpt
    have c1 := r_sumOf z (show F + L ≤ 24 by omega) t2
    have m6 := t1.2.1
    obtain ⟨S, eS⟩ : ∃ S : Nat, fb_si pt L = (S : Int) := ⟨(fb_si pt L).toNat, by omega⟩
    rw [eS] at hs c1 m6
    have hcl : ∀ o, fX1_nearest (lL (S : Int)) (lL (L : Int)) (iI ((52 : Nat) : Int)) (iI ((1023 : Nat) : Int)) = some o → fX6_mean M = some (o, M1) := by
      intro o ho
      unfold fX6_mean fX0_length fX0_meanBits fX1_nearestDouble
      rw [e1, zb1_eq, zb1_eq, n1, zj_eq, li_0, feq_n (by omega) (by omega) (by omega), m6, iI_long (by omega) (by omega), iI_long (by omega) (by omega), show (52 : Int32) = iI ((52 : Nat) : Int) from rfl, show (1023 : Int32) = iI ((1023 : Nat) : Int) from rfl, ho, zb1_eq, zb1_eq, zb1_eq]
    rcases Nat.eq_zero_or_pos S with zs | zs
    · subst zs
      refine ⟨0, M1, M2, F0, hcl 0 (near_0 _ _ _), ?_, hR2⟩
      unfold fX7_mean
      rw [e2, zb1_eq, n2, li_0, feq_n (by omega) (by omega) (by omega), c1, zb1_eq, if_pos (show iI ((0 : Nat) : Int) = iI 0 from rfl)]
    · have hp53 : 2 ^ (52 + 1) = 9007199254740992 := by decide
      have hp52 : 2 ^ 52 = 4503599627370496 := by decide
      obtain ⟨M3, F3, m, e3, g1, g2, g3, g4, g5, g6⟩ := r_nearest (M := M2) (F := F0) (a := S) (b := L) (N := 52) zs (by omega) z (by omega) (by omega) (by rw [hp53]; omega) (by rw [hp53]; omega)
      have hb := r_bits (bias := 1023) (by omega) g2 (by omega) g6
      refine ⟨nbt S L 52 1023 m, M1, M3, F3, hcl _ (c_nearest zs (by omega) z (by omega) (by omega) (by omega) (by omega) (by omega) g1 (by rw [hp52]; omega)), ?_, Rl_ag hR2 (Ag_25 g3)⟩
      unfold fX7_mean
      rw [e2, zb1_eq, n2, li_0, feq_n (by omega) (by omega) (by omega), c1, zb1_eq, feq_n (by omega) (by omega) (by omega), zb1_eq, show (53 : Int32) = iI ((52 + 1 : Nat) : Int) from rfl, e3, zb2_eq, show (1023 : Int32) = iI ((1023 : Nat) : Int) from rfl, hb, zb1_eq]
