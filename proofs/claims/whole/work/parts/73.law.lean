/-! the law's loop, and its start -/
theorem and31 (x : Int32) : ∃ n : Nat, n < 32 ∧ x &&& 31 = iI (n : Int) := by
  refine ⟨(x &&& 31).toBitVec.toNat, ?_, ?_⟩
  · rw [Int32.toBitVec_and, BitVec.toNat_and, show (31 : Int32).toBitVec.toNat = 31 by decide]
    have := Nat.and_le_right (n := x.toBitVec.toNat) (m := 31)
    omega
  · rw [← nI_iI]
    apply Int32.toBitVec_inj.mp
    show _ = BitVec.ofNat 32 _
    apply BitVec.eq_of_toNat_eq
    rw [BitVec.toNat_ofNat, Nat.mod_eq_of_lt (BitVec.isLt _)]
section LLOOP
variable {κ : zK} {G : zG} {cd : Cond} {b L : Nat} {xs : Nat → Int32}
theorem lw_loop (X : zCx κ G cL_law (cd :: wsL_law) RL ret 11 412) (Y : zSc κ b L xs) (hm : κ.2.2.2.2.2.2.2.2.2.2.2.2.2.1 = 4) (hL : L ≤ 3072) (kend : ∀ lv M F, zV κ G 1001 lv [] M F) : ∀ (n k : Nat) (M : zMem) (F : Int64), Rl M → L < 6 * (k + n) + 6 → 6 * k ≤ L + 6 → zV κ G 18 [(3, .int (iI ((6 * k : Nat) : Int))), (2, .ref (G.1 60)), (1, .ref (G.1 0)), (0, .ref b)] [] M F := by
  intro n
  induction n with
  | zero =>
    intro k M F hR h1 h2
    refine z_iload_n X dL_law_18 rfl 0 rfl ?_
    refine z_aload_n X dL_law_19 rfl 3 rfl ?_
    refine z_slen X Y dL_law_20 ?_
    refine z_bipush (v := 6) X dL_law_21 (by decide) ?_
    refine z_isub X dL_law_23 ?_
    rw [show Int32.ofNat L = iI (L : Int) from nI_iI L, li_6, iI_sub]
    refine z_icmp_gt (tgt := 1001) X dL_law_24 (by decide) (fun _ => kend _ M F) (fun h => absurd ?_ h)
    rw [iI_lt (by omega) (by omega) (by omega) (by omega)]; omega
  | succ n ih =>
    intro k M F hR h1 h2
    refine z_iload_n X dL_law_18 rfl 0 rfl ?_
    refine z_aload_n X dL_law_19 rfl 3 rfl ?_
    refine z_slen X Y dL_law_20 ?_
    refine z_bipush (v := 6) X dL_law_21 (by decide) ?_
    refine z_isub X dL_law_23 ?_
    rw [show Int32.ofNat L = iI (L : Int) from nI_iI L, li_6, iI_sub]
    refine z_icmp_gt (tgt := 1001) X dL_law_24 (by decide) (fun _ => kend _ M F) (fun h => ?_)
    rw [iI_lt (by omega) (by omega) (by omega) (by omega)] at h
    have vi : ∀ j : Int, 0 ≤ j → j < 6 → vp_in (iI (((6 * k : Nat) : Int) + j)) L := fun j a c => zin_sp (iI_in (by omega) (by omega) (by omega))
    have hi : lIn (iI ((6 * k : Nat) : Int)) L := by
      refine ⟨?_, ?_, ?_, ?_, ?_⟩
      · rw [li_1, iI_add]; exact vi 1 (by omega) (by omega)
      · rw [li_2, iI_add]; exact vi 2 (by omega) (by omega)
      · rw [li_3, iI_add]; exact vi 3 (by omega) (by omega)
      · rw [li_4, iI_add]; exact vi 4 (by omega) (by omega)
      · rw [li_5, iI_add]; exact vi 5 (by omega) (by omega)
    have h0 : vp_in (iI ((6 * k : Nat) : Int)) L := by
      have := vi 0 (by omega) (by omega)
      rw [Int.add_zero] at this
      exact this
    refine z_aload_n X dL_law_27 rfl 3 rfl ?_
    refine z_iload_n X dL_law_28 rfl 0 rfl ?_
    refine z_sld X Y h0 dL_law_29 ?_
    refine z_bipush (v := 31) X dL_law_30 (by decide) ?_
    refine z_iand X dL_law_32 ?_
    obtain ⟨c, hc, ec⟩ := and31 (xs (iI ((6 * k : Nat) : Int)).toNatClampNeg)
    rw [ec]
    refine lw_sw X Y hR hi (fun M' F' hR' => ?_) c hc
    refine z_iinc (j := 0) (v := iI ((6 * (k + 1) : Nat) : Int)) (lv' := [(3, .int (iI ((6 * (k + 1) : Nat) : Int))), (2, .ref (G.1 60)), (1, .ref (G.1 0)), (0, .ref b)]) X dL_law_995 rfl ?_ hm (by decide) rfl ?_
    · show iI ((6 * k : Nat) : Int) + iI 6 = _
      rw [iI_add]; congr 1
    · refine z_goto (tgt := 18) X dL_law_998 (by decide) ?_
      exact ih (k + 1) M' F' hR' (by omega) (by omega)
end LLOOP
theorem crd_i : ∀ j, j < 4 → crd Mi j
  | 0, _ => ⟨Or.inl ⟨rfl, rfl, rfl⟩, fun _ _ => rfl⟩
  | 1, _ => ⟨Or.inl ⟨rfl, rfl, rfl⟩, fun _ _ => rfl⟩
  | 2, _ => ⟨Or.inl ⟨rfl, rfl, rfl⟩, fun _ _ => rfl⟩
  | 3, _ => ⟨Or.inl ⟨rfl, rfl, rfl⟩, fun _ _ => rfl⟩
  | j + 4, h => absurd h (by omega)
theorem Rl_i : Rl Mi := by
  refine ⟨⟨24, fun _ _ => false, ⟨by omega, by omega, rfl, fun k hk r hr => ?_, fun k r h => by cases h⟩, ⟨by omega, by omega, rfl, fun k hk r hr => rfl, fun k r h => by cases h⟩, mvs_0 (x := 0) (by omega) rfl rfl rfl⟩, crd_i, rfl⟩
  show bt 0 r = false
  exact b_0 r
def SM7 : List Nat := [60, 61, 62, 63, 64, 65, 66, 67, 68, 69, 70, 71, 72, 73, 74, 75, 76]
def gA (g0 g7 : Nat → Nat) : Nat → Nat := fun c => if c < 60 then g0 c else g7 c
set_option maxRecDepth 100000 in
theorem S67 : (SX6 ++ SM7).Perm (List.range 77) := by decide
set_option maxRecDepth 100000 in
theorem clX6 : zcl SX6 = true := by decide
set_option maxRecDepth 100000 in
theorem inX6 : SX6.all (fun x => decide (0 ≤ x ∧ x ≤ 59)) = true := by decide
theorem all_made (C : Nat → ClassId) (g0 g7 : Nat → Nat) : (bw (g0, C) SX6 ++ bw (g7, C) SM7).Perm (zwld (gA g0 g7, C) Mi 0) := by
  have b0 : bw (gA g0 g7, C) SX6 = bw (g0, C) SX6 := bw_cg clX6 (fun x hx => by
    have := inS inX6 hx
    unfold gA
    rw [if_pos (by omega)])
  have b7 : bw (gA g0 g7, C) SM7 = bw (g7, C) SM7 := bw_cg (by decide) (fun x hx => by
    have := inS (a := 60) (b := 76) (by decide) hx
    unfold gA
    rw [if_neg (by omega)])
  rw [← b0, ← b7, ← bw_app]
  exact S67.map _
