set_option maxHeartbeats 4000000 in
set_option maxRecDepth 100000 in
theorem mtX4_width (l : Launch) (D : va_G) (G : zG) {M : zMem} {F : Int64} {ro : Int32} (hf : fX4_width M = some ro) : zCM l yX4_width wX4_width { frames := 0, cells := 0, slots := 0, locals := 0 } D G [.ref (G.1 1)] M F (some (.int ro)) M F := by
  refine zCM.ofV (own := RX4) (cc := cX4_width) (maxL := 1) (ret := (some .int)) (lv := [(0, .ref (G.1 1))]) (by decide) rfl rfl (Nat.le_of_ble_eq_true rfl) rfl (fun κ X Z hm hκ1 hκ2 => ?_)
  subst hκ1 hκ2
  unfold fX4_width at hf
  refine z_aload_n X dX4_width_0 rfl 0 rfl ?_
  refine gf_X4_23 X dX4_width_1 ?_
  exact z_iret X (zR_i hf Z) dX4_width_4
set_option maxHeartbeats 4000000 in
set_option maxRecDepth 100000 in
theorem mtX4_hasColumn (l : Launch) (D : va_G) (G : zG) {p1 : Int32} {M : zMem} {F : Int64} {ro : Int32} (hf : fX4_hasColumn p1 M = some ro) : zCM l yX4_hasColumn wX4_hasColumn { frames := 0, cells := 0, slots := 0, locals := 0 } D G [.ref (G.1 1), .int p1] M F (some (.int ro)) M F := by
  refine zCM.ofV (own := RX4) (cc := cX4_hasColumn) (maxL := 2) (ret := (some .boolean)) (lv := [(0, .ref (G.1 1)), (1, .int p1)]) (by decide) rfl rfl (Nat.le_of_ble_eq_true rfl) rfl (fun κ X Z hm hκ1 hκ2 => ?_)
  subst hκ1 hκ2
  unfold fX4_hasColumn at hf
  refine z_iload_n X dX4_hasColumn_0 rfl 1 rfl ?_
  have hj : zV κ G 17 [(0, .ref (G.1 1)), (1, .int p1)] [.int (if p1 < 0 then (0 : Int32) else (if (M 1 3) ≤ p1 then (0 : Int32) else (1 : Int32)))] M F := by
    exact z_zret X (z01_ite (Or.inl rfl) (z01_ite (Or.inl rfl) (Or.inr rfl))) (zR_i hf Z) dX4_hasColumn_17
  refine z_if_lt (tgt := 16) X dX4_hasColumn_1 (by decide) (fun h1 => ?_) (fun h1 => ?_)
  · try simp only [if_pos h1] at hj
    refine z_iconst (v := (0 : Int32)) X dX4_hasColumn_16 (by decide) ?_
    exact hj
  · try simp only [if_neg h1] at hj
    refine z_iload_n X dX4_hasColumn_4 rfl 1 rfl ?_
    refine z_aload_n X dX4_hasColumn_5 rfl 0 rfl ?_
    refine gf_X4_23 X dX4_hasColumn_6 ?_
    refine z_icmp_ge (tgt := 16) X dX4_hasColumn_9 (by decide) (fun h2 => ?_) (fun h2 => ?_)
    · try simp only [if_pos h2] at hj
      refine z_iconst (v := (0 : Int32)) X dX4_hasColumn_16 (by decide) ?_
      exact hj
    · try simp only [if_neg h2] at hj
      refine z_iconst (v := (1 : Int32)) X dX4_hasColumn_12 (by decide) ?_
      refine z_goto (tgt := 17) X dX4_hasColumn_13 (by decide) ?_
      exact hj
set_option maxHeartbeats 4000000 in
set_option maxRecDepth 100000 in
theorem mtX4_dots (l : Launch) (D : va_G) (G : zG) {p1 : Int32} {M : zMem} {F : Int64} {ro : Int32} (hf : fX4_dots p1 M = some ro) : zCM l yX4_dots wX4_dots { frames := 1, cells := 0, slots := 0, locals := 21 } D G [.ref (G.1 1), .int p1] M F (some (.int ro)) M F := by
  refine zCM.ofV (own := RX4) (cc := cX4_dots) (maxL := 2) (ret := (some .int)) (lv := [(0, .ref (G.1 1)), (1, .int p1)]) (by decide) rfl rfl (Nat.le_of_ble_eq_true rfl) rfl (fun κ X Z hm hκ1 hκ2 => ?_)
  subst hκ1 hκ2
  unfold fX4_dots at hf
  refine z_aload_n X dX4_dots_0 rfl 0 rfl ?_
  refine z_iload_n X dX4_dots_1 rfl 1 rfl ?_
  obtain ⟨r2, h1, hf⟩ := zb1_sp hf
  refine gc_X4_33 (st := []) X (mtX4_hasColumn κ.2.1 κ.2.2.2.2.2.2.2.2.2.2.1 G  h1) rfl rfl (Nat.le_of_ble_eq_true rfl) (Nat.le_of_ble_eq_true rfl) (Nat.le_of_ble_eq_true rfl) dX4_dots_2 ?_
  obtain ⟨k4, k4e, hf⟩ := zj_sp hf
  have hj5 : ∀ (x3 : Int32), k4 x3 = some ro → zV κ G 18 [(0, .ref (G.1 1)), (1, .int p1)] [.int x3] M F := by
    intro x3 hf
    rw [k4e] at hf
    exact z_iret X (zR_i hf Z) dX4_dots_18
  clear k4e
  refine z_if_eq (tgt := 17) X dX4_dots_5 (by decide) (fun h7 => ?_) (fun h7 => ?_)
  · have hf := zt h7 hf
    refine z_iconst (v := (0 : Int32)) X dX4_dots_17 (by decide) ?_
    exact hj5 (0 : Int32) hf
  · have hf := zf h7 hf
    refine z_aload_n X dX4_dots_8 rfl 0 rfl ?_
    refine gf_X4_9 X dX4_dots_9 ?_
    refine z_iload_n X dX4_dots_12 rfl 1 rfl ?_
    obtain ⟨h6, hf⟩ := zc_sp hf
    refine z_iald X zc_2 zl_2 (zin_sp h6) dX4_dots_13 ?_
    refine z_goto (tgt := 18) X dX4_dots_14 (by decide) ?_
    exact hj5 (M 2 p1.toNatClampNeg) hf
set_option maxHeartbeats 4000000 in
set_option maxRecDepth 100000 in
theorem mtX4_feet (l : Launch) (D : va_G) (G : zG) {p1 : Int32} {M : zMem} {F : Int64} {ro : Int32} (hf : fX4_feet p1 M = some ro) : zCM l yX4_feet wX4_feet { frames := 2, cells := 0, slots := 0, locals := 42 } D G [.ref (G.1 1), .int p1] M F (some (.int ro)) M F := by
  refine zCM.ofV (own := RX4) (cc := cX4_feet) (maxL := 2) (ret := (some .int)) (lv := [(0, .ref (G.1 1)), (1, .int p1)]) (by decide) rfl rfl (Nat.le_of_ble_eq_true rfl) rfl (fun κ X Z hm hκ1 hκ2 => ?_)
  subst hκ1 hκ2
  unfold fX4_feet at hf
  refine z_aload_n X dX4_feet_0 rfl 0 rfl ?_
  refine z_iload_n X dX4_feet_1 rfl 1 rfl ?_
  obtain ⟨r2, h1, hf⟩ := zb1_sp hf
  refine gc_X4_40 (st := []) X (mtX4_dots κ.2.1 κ.2.2.2.2.2.2.2.2.2.2.1 G  h1) rfl rfl (Nat.le_of_ble_eq_true rfl) (Nat.le_of_ble_eq_true rfl) (Nat.le_of_ble_eq_true rfl) dX4_feet_2 ?_
  refine z_aload_n X dX4_feet_5 rfl 0 rfl ?_
  refine z_iload_n X dX4_feet_6 rfl 1 rfl ?_
  obtain ⟨r4, h3, hf⟩ := zb1_sp hf
  refine gc_X4_40 (st := [.int r2]) X (mtX4_dots κ.2.1 κ.2.2.2.2.2.2.2.2.2.2.1 G  h3) rfl rfl (Nat.le_of_ble_eq_true rfl) (Nat.le_of_ble_eq_true rfl) (Nat.le_of_ble_eq_true rfl) dX4_feet_7 ?_
  refine z_iconst (v := (1 : Int32)) X dX4_feet_10 (by decide) ?_
  refine z_iushr X dX4_feet_11 ?_
  refine z_iconst (v := (-1 : Int32)) X dX4_feet_12 (by decide) ?_
  refine z_ixor X dX4_feet_13 ?_
  refine z_iand X dX4_feet_14 ?_
  exact z_iret X (zR_i hf Z) dX4_feet_15
set_option maxHeartbeats 4000000 in
set_option maxRecDepth 100000 in
theorem mtX6_isRow (l : Launch) (D : va_G) (G : zG) {p0 : Int32} {M : zMem} {F : Int64} {ro : Int32} (hf : fX6_isRow p0 = some ro) : zCM l yX6_isRow wX6_isRow { frames := 0, cells := 0, slots := 0, locals := 0 } D G [.int p0] M F (some (.int ro)) M F := by
  refine zCM.ofV (own := RX6) (cc := cX6_isRow) (maxL := 1) (ret := (some .boolean)) (lv := [(0, .int p0)]) (by decide) rfl rfl (Nat.le_of_ble_eq_true rfl) rfl (fun κ X Z hm hκ1 hκ2 => ?_)
  subst hκ1 hκ2
  unfold fX6_isRow at hf
  refine z_iload_n X dX6_isRow_0 rfl 0 rfl ?_
  have hj : zV κ G 15 [(0, .int p0)] [.int (if p0 < 0 then (0 : Int32) else (if (32 : Int32) ≤ p0 then (0 : Int32) else (1 : Int32)))] M F := by
    exact z_zret X (z01_ite (Or.inl rfl) (z01_ite (Or.inl rfl) (Or.inr rfl))) (zR_i hf Z) dX6_isRow_15
  refine z_if_lt (tgt := 14) X dX6_isRow_1 (by decide) (fun h1 => ?_) (fun h1 => ?_)
  · try simp only [if_pos h1] at hj
    refine z_iconst (v := (0 : Int32)) X dX6_isRow_14 (by decide) ?_
    exact hj
  · try simp only [if_neg h1] at hj
    refine z_iload_n X dX6_isRow_4 rfl 0 rfl ?_
    refine z_bipush (v := (32 : Int32)) X dX6_isRow_5 (by decide) ?_
    refine z_icmp_ge (tgt := 14) X dX6_isRow_7 (by decide) (fun h2 => ?_) (fun h2 => ?_)
    · try simp only [if_pos h2] at hj
      refine z_iconst (v := (0 : Int32)) X dX6_isRow_14 (by decide) ?_
      exact hj
    · try simp only [if_neg h2] at hj
      refine z_iconst (v := (1 : Int32)) X dX6_isRow_10 (by decide) ?_
      refine z_goto (tgt := 15) X dX6_isRow_11 (by decide) ?_
      exact hj
set_option maxHeartbeats 4000000 in
set_option maxRecDepth 100000 in
theorem mtX0_reachAt (l : Launch) (D : va_G) (G : zG) {p1 : Int32} {p2 : Int32} {M : zMem} {F : Int64} {ro : Int32} (hf : fX0_reachAt p1 p2 M = some ro) : zCM l yX0_reachAt wX0_reachAt { frames := 1, cells := 0, slots := 0, locals := 20 } D G [.ref (G.1 32), .int p1, .int p2] M F (some (.int ro)) M F := by
  refine zCM.ofV (own := RX0) (cc := cX0_reachAt) (maxL := 3) (ret := (some .int)) (lv := [(0, .ref (G.1 32)), (1, .int p1), (2, .int p2)]) (by decide) rfl rfl (Nat.le_of_ble_eq_true rfl) rfl (fun κ X Z hm hκ1 hκ2 => ?_)
  subst hκ1 hκ2
  unfold fX0_reachAt at hf
  refine z_iload_n X dX0_reachAt_0 rfl 1 rfl ?_
  obtain ⟨k2, k2e, hf⟩ := zj_sp hf
  have hj3 : ∀ (x1 : Int32), k2 x1 = some ro → zV κ G 31 [(0, .ref (G.1 32)), (1, .int p1), (2, .int p2)] [.int x1] M F := by
    intro x1 hf
    rw [k2e] at hf
    exact z_iret X (zR_i hf Z) dX0_reachAt_31
  clear k2e
  refine z_if_lt (tgt := 30) X dX0_reachAt_1 (by decide) (fun h10 => ?_) (fun h10 => ?_)
  · have hf := zt h10 hf
    refine z_iconst (v := (0 : Int32)) X dX0_reachAt_30 (by decide) ?_
    exact hj3 (0 : Int32) hf
  · have hf := zf h10 hf
    refine z_iload_n X dX0_reachAt_4 rfl 1 rfl ?_
    refine z_aload_n X dX0_reachAt_5 rfl 0 rfl ?_
    refine gf_X0_20 X dX0_reachAt_6 ?_
    refine z_icmp_ge (tgt := 30) X dX0_reachAt_9 (by decide) (fun h9 => ?_) (fun h9 => ?_)
    · have hf := zt h9 hf
      refine z_iconst (v := (0 : Int32)) X dX0_reachAt_30 (by decide) ?_
      exact hj3 (0 : Int32) hf
    · have hf := zf h9 hf
      refine z_iload_n X dX0_reachAt_12 rfl 2 rfl ?_
      obtain ⟨r5, h4, hf⟩ := zb1_sp hf
      refine gc_X0_86 (st := []) X (mtX6_isRow κ.2.1 κ.2.2.2.2.2.2.2.2.2.2.1 G  h4) rfl rfl (Nat.le_of_ble_eq_true rfl) (Nat.le_of_ble_eq_true rfl) (Nat.le_of_ble_eq_true rfl) dX0_reachAt_13 ?_
      refine z_if_eq (tgt := 30) X dX0_reachAt_16 (by decide) (fun h8 => ?_) (fun h8 => ?_)
      · have hf := zt h8 hf
        refine z_iconst (v := (0 : Int32)) X dX0_reachAt_30 (by decide) ?_
        exact hj3 (0 : Int32) hf
      · have hf := zf h8 hf
        refine z_aload_n X dX0_reachAt_19 rfl 0 rfl ?_
        refine gf_X0_11 X dX0_reachAt_20 ?_
        refine z_iload_n X dX0_reachAt_23 rfl 1 rfl ?_
        obtain ⟨h6, hf⟩ := zc_sp hf
        refine z_aald (ty := .array .int) X zc_33 zl_33 rfl rfl (zin_sp h6) dX0_reachAt_24 ?_
        refine z_iload_n X dX0_reachAt_25 rfl 2 rfl ?_
        obtain ⟨h7, hf⟩ := zc_sp hf
        refine z_iald X (zc_rrow (zin_lt h6)) (zl_rrow (zin_lt h6)) (zin_sp h7) dX0_reachAt_26 ?_
        refine z_goto (tgt := 31) X dX0_reachAt_27 (by decide) ?_
        exact hj3 (M (34 + p1.toNatClampNeg) p2.toNatClampNeg) hf
set_option maxHeartbeats 4000000 in
set_option maxRecDepth 100000 in
theorem mtX0_lowestOnward (l : Launch) (D : va_G) (G : zG) {p1 : Int32} {p2 : Int32} {M : zMem} {F : Int64} {ro : Int32} (hf : fX0_lowestOnward p1 p2 M = some ro) : zCM l yX0_lowestOnward wX0_lowestOnward { frames := 2, cells := 0, slots := 0, locals := 42 } D G [.ref (G.1 32), .int p1, .int p2] M F (some (.int ro)) M F := by
  refine zCM.ofV (own := RX0) (cc := cX0_lowestOnward) (maxL := 5) (ret := (some .int)) (lv := [(0, .ref (G.1 32)), (1, .int p1), (2, .int p2)]) (by decide) rfl rfl (Nat.le_of_ble_eq_true rfl) rfl (fun κ X Z hm hκ1 hκ2 => ?_)
  subst hκ1 hκ2
  unfold fX0_lowestOnward at hf
  refine z_iload_n X dX0_lowestOnward_0 rfl 2 rfl ?_
  refine z_iconst (v := (1 : Int32)) X dX0_lowestOnward_1 (by decide) ?_
  refine z_iadd X dX0_lowestOnward_2 ?_
  refine z_nmI hf (fun x1 hf => ?_)
  refine z_istore_n (lv' := [(3, .int x1), (0, .ref (G.1 32)), (1, .int p1), (2, .int p2)]) X dX0_lowestOnward_3 rfl hm (by decide) rfl ?_
  refine z_iload_n X dX0_lowestOnward_4 rfl 3 rfl ?_
  refine z_istore (lv' := [(4, .int p2), (3, .int x1), (0, .ref (G.1 32)), (1, .int p1), (2, .int p2)]) X dX0_lowestOnward_5 hm (by decide) rfl ?_
  obtain ⟨b9, hb10, hf⟩ := zb1_sp hf
  have hX4 : ∀ t, t = b9 → zu2 (fun (x17 : Int32) (x18 : Int32) => zV κ G 40 [(4, .int x17), (3, .int x18), (0, .ref (G.1 32)), (1, .int p1), (2, .int p2)] [] M F) t := by
    intro t ht
    subst ht
    obtain ⟨x17, x18⟩ := t
    show zV κ G 40 [(4, .int x17), (3, .int x18), (0, .ref (G.1 32)), (1, .int p1), (2, .int p2)] [] M F
    refine z_iload_n X dX0_lowestOnward_40 rfl 1 rfl ?_
    exact z_iret X (zR_i hf Z) dX0_lowestOnward_41
  refine zlp_walk (P := zu2 (fun (x2 : Int32) (x3 : Int32) => zV κ G 7 [(4, .int x2), (3, .int x3), (0, .ref (G.1 32)), (1, .int p1), (2, .int p2)] [] M F)) (fun a19 w8 hf hi6 hx7 => ?_) _ _ hb10
  obtain ⟨x2, x3⟩ := a19
  show zV κ G 7 [(4, .int x2), (3, .int x3), (0, .ref (G.1 32)), (1, .int p1), (2, .int p2)] [] M F
  replace hf : fX0_lowestOnward_L7 p1 p2 M x2 x3 = some w8 := hf
  unfold fX0_lowestOnward_L7 at hf
  refine z_iload X dX0_lowestOnward_7 0 rfl ?_
  refine z_iload_n X dX0_lowestOnward_9 rfl 4 rfl ?_
  refine z_iconst (v := (1 : Int32)) X dX0_lowestOnward_10 (by decide) ?_
  refine z_isub X dX0_lowestOnward_11 ?_
  refine z_icmp_lt (tgt := 40) X dX0_lowestOnward_12 (by decide) (fun h16 => ?_) (fun h16 => ?_)
  · have hf := zt h16 hf
    have hq := hX4 _ (hx7 _ (Option.some.inj hf).symm)
    exact hq
  · have hf := zf h16 hf
    refine z_aload_n X dX0_lowestOnward_15 rfl 2 rfl ?_
    refine z_iload_n X dX0_lowestOnward_16 rfl 3 rfl ?_
    refine z_iload X dX0_lowestOnward_17 0 rfl ?_
    obtain ⟨r12, h11, hf⟩ := zb1_sp hf
    refine gc_X0_83 (st := []) X (mtX0_reachAt κ.2.1 κ.2.2.2.2.2.2.2.2.2.2.1 G  h11) rfl rfl (Nat.le_of_ble_eq_true rfl) (Nat.le_of_ble_eq_true rfl) (Nat.le_of_ble_eq_true rfl) dX0_lowestOnward_19 ?_
    refine z_aload_n X dX0_lowestOnward_22 rfl 2 rfl ?_
    refine z_iload_n X dX0_lowestOnward_23 rfl 3 rfl ?_
    refine z_iload_n X dX0_lowestOnward_24 rfl 1 rfl ?_
    obtain ⟨r14, h13, hf⟩ := zb1_sp hf
    refine gc_X0_83 (st := [.int r12]) X (mtX0_reachAt κ.2.1 κ.2.2.2.2.2.2.2.2.2.2.1 G  h13) rfl rfl (Nat.le_of_ble_eq_true rfl) (Nat.le_of_ble_eq_true rfl) (Nat.le_of_ble_eq_true rfl) dX0_lowestOnward_25 ?_
    have hj : zV κ G 34 [(4, .int x2), (3, .int (if r12 ≤ r14 then x3 else x2)), (0, .ref (G.1 32)), (1, .int p1), (2, .int p2)] [] M F := by
      refine z_iinc (lv' := [(4, .int (x2 + (-1 : Int32))), (3, .int (if r12 ≤ r14 then x3 else x2)), (0, .ref (G.1 32)), (1, .int p1), (2, .int p2)]) (v := x2 + (-1 : Int32)) X dX0_lowestOnward_34 (j := 0) rfl rfl hm (by decide) rfl ?_
      refine z_goto (tgt := 7) X dX0_lowestOnward_37 (by decide) ?_
      have hq := hi6 _ (Option.some.inj hf).symm
      exact hq
    refine z_icmp_le (tgt := 34) X dX0_lowestOnward_28 (by decide) (fun h15 => ?_) (fun h15 => ?_)
    · try simp only [if_pos h15] at hj
      exact hj
    · try simp only [if_neg h15] at hj
      refine z_iload X dX0_lowestOnward_31 0 rfl ?_
      refine z_istore_n (lv' := [(3, .int x2), (4, .int x2), (0, .ref (G.1 32)), (1, .int p1), (2, .int p2)]) X dX0_lowestOnward_33 rfl hm (by decide) rfl ?_
      refine z_sub [1, 0, 2, 3, 4] rfl ?_
      exact hj
set_option maxHeartbeats 4000000 in
set_option maxRecDepth 100000 in
theorem mtX0_measure (l : Launch) (D : va_G) (G : zG) {p1 : Int32} {p2 : Int32} {M : zMem} {F : Int64} {Mo : zMem} (hf : fX0_measure p1 p2 M = some Mo) : zCM l yX0_measure wX0_measure { frames := 3, cells := 0, slots := 0, locals := 66 } D G [.ref (G.1 32), .int p1, .int p2] M F none Mo F := by
  refine zCM.ofV (own := RX0) (cc := cX0_measure) (maxL := 5) (ret := none) (lv := [(0, .ref (G.1 32)), (1, .int p1), (2, .int p2)]) (by decide) rfl rfl (Nat.le_of_ble_eq_true rfl) rfl (fun κ X Z hm hκ1 hκ2 => ?_)
  subst hκ1 hκ2
  unfold fX0_measure at hf
  refine z_iconst (v := (0 : Int32)) X dX0_measure_0 (by decide) ?_
  refine z_istore_n (lv' := [(3, .int (0 : Int32)), (0, .ref (G.1 32)), (1, .int p1), (2, .int p2)]) X dX0_measure_1 rfl hm (by decide) rfl ?_
  obtain ⟨b8, hb9, hf⟩ := zb1_sp hf
  have hX3 : ∀ t, t = b8 → zu2 (fun (x36 : Int32) (M37 : zMem) => zV κ G 106 [(3, .int x36), (0, .ref (G.1 32)), (1, .int p1), (2, .int p2)] [] M37 F) t := by
    intro t ht
    subst ht
    obtain ⟨x36, M37⟩ := t
    show zV κ G 106 [(3, .int x36), (0, .ref (G.1 32)), (1, .int p1), (2, .int p2)] [] M37 F
    exact z_vret X (zR_M hf Z) dX0_measure_106
  refine zlp_walk (P := zu2 (fun (x1 : Int32) (M2 : zMem) => zV κ G 2 [(3, .int x1), (0, .ref (G.1 32)), (1, .int p1), (2, .int p2)] [] M2 F)) (fun a38 w7 hf hi5 hx6 => ?_) _ _ hb9
  obtain ⟨x1, M2⟩ := a38
  show zV κ G 2 [(3, .int x1), (0, .ref (G.1 32)), (1, .int p1), (2, .int p2)] [] M2 F
  replace hf : fX0_measure_L2 p1 p2 x1 M2 = some w7 := hf
  unfold fX0_measure_L2 at hf
  refine z_iload_n X dX0_measure_2 rfl 0 rfl ?_
  refine z_bipush (v := (32 : Int32)) X dX0_measure_3 (by decide) ?_
  refine z_icmp_ge (tgt := 106) X dX0_measure_5 (by decide) (fun h35 => ?_) (fun h35 => ?_)
  · have hf := zt h35 hf
    have hq := hX3 _ (hx6 _ (Option.some.inj hf).symm)
    exact hq
  · have hf := zf h35 hf
    refine z_iload_n X dX0_measure_8 rfl 3 rfl ?_
    refine z_iload_n X dX0_measure_9 rfl 0 rfl ?_
    refine z_iushr X dX0_measure_10 ?_
    refine z_iconst (v := (1 : Int32)) X dX0_measure_11 (by decide) ?_
    refine z_iand X dX0_measure_12 ?_
    refine z_iconst (v := (1 : Int32)) X dX0_measure_13 (by decide) ?_
    have hj : zV κ G 22 [(3, .int x1), (0, .ref (G.1 32)), (1, .int p1), (2, .int p2)] [.int (if ((zush p2 x1) &&& (1 : Int32)) = (1 : Int32) then (1 : Int32) else (0 : Int32))] M2 F := by
      refine z_nmI hf (fun x11 hf => ?_)
      refine z_istore (lv' := [(4, .int x11), (3, .int x1), (0, .ref (G.1 32)), (1, .int p1), (2, .int p2)]) X dX0_measure_22 hm (by decide) rfl ?_
      refine z_aload_n X dX0_measure_24 rfl 2 rfl ?_
      refine gf_X0_11 X dX0_measure_25 ?_
      refine z_iload_n X dX0_measure_28 rfl 3 rfl ?_
      obtain ⟨h12, hf⟩ := zc_sp hf
      refine z_aald (ty := .array .int) X zc_33 zl_33 rfl rfl (zin_sp h12) dX0_measure_29 ?_
      refine z_iload_n X dX0_measure_30 rfl 1 rfl ?_
      refine z_iload X dX0_measure_31 0 rfl ?_
      obtain ⟨k14, k14e, hf⟩ := zj_sp hf
      have hj15 : ∀ (x13 : Int32), k14 x13 = some w7 → zV κ G 57 [(4, .int x11), (3, .int x1), (0, .ref (G.1 32)), (1, .int p1), (2, .int p2)] [.int x13, .int x1, .ref (G.1 (34 + p1.toNatClampNeg))] M2 F := by
        intro x13 hf
        rw [k14e] at hf
        obtain ⟨h21, hf⟩ := zc_sp hf
        refine z_iast X (zc_rrow (zin_lt h12)) (zl_rrow (zin_lt h12)) (zin_sp h21) dX0_measure_57 ?_
        refine z_nmM hf (fun M22 hf => ?_)
        refine z_iload X dX0_measure_58 0 rfl ?_
        obtain ⟨k24, k24e, hf⟩ := zj_sp hf
        have hj25 : ∀ (M23 : zMem), k24 M23 = some w7 → zV κ G 100 [(4, .int x11), (3, .int x1), (0, .ref (G.1 32)), (1, .int p1), (2, .int p2)] [] M23 F := by
          intro M23 hf
          rw [k24e] at hf
          refine z_iinc (lv' := [(3, .int (x1 + (1 : Int32))), (4, .int x11), (0, .ref (G.1 32)), (1, .int p1), (2, .int p2)]) (v := x1 + (1 : Int32)) X dX0_measure_100 (j := 1) rfl rfl hm (by decide) rfl ?_
          refine z_goto (tgt := 2) X dX0_measure_103 (by decide) ?_
          refine z_sub [0, 2, 3, 4] rfl ?_
          have hq := hi5 _ (Option.some.inj hf).symm
          exact hq
        clear k24e
        refine z_if_eq (tgt := 100) X dX0_measure_60 (by decide) (fun h34 => ?_) (fun h34 => ?_)
        · have hf := zt h34 hf
          exact hj25 M22 hf
        · have hf := zf h34 hf
          refine z_aload_n X dX0_measure_63 rfl 2 rfl ?_
          refine gf_X0_11 X dX0_measure_64 ?_
          refine z_iload_n X dX0_measure_67 rfl 3 rfl ?_
          obtain ⟨h26, hf⟩ := zc_sp hf
          refine z_aald (ty := .array .int) X zc_33 zl_33 rfl rfl (zin_sp h26) dX0_measure_68 ?_
          refine z_iload_n X dX0_measure_69 rfl 1 rfl ?_
          obtain ⟨h27, hf⟩ := zc_sp hf
          refine z_iald X (zc_rrow (zin_lt h26)) (zl_rrow (zin_lt h26)) (zin_sp h27) dX0_measure_70 ?_
          refine z_aload_n X dX0_measure_71 rfl 2 rfl ?_
          refine gf_X0_27 X dX0_measure_72 ?_
          refine z_icmp_lt (tgt := 100) X dX0_measure_75 (by decide) (fun h33 => ?_) (fun h33 => ?_)
          · have hf := zt h33 hf
            exact hj25 M22 hf
          · have hf := zf h33 hf
            refine z_aload_n X dX0_measure_78 rfl 2 rfl ?_
            refine z_aload_n X dX0_measure_79 rfl 2 rfl ?_
            refine gf_X0_11 X dX0_measure_80 ?_
            refine z_iload_n X dX0_measure_83 rfl 3 rfl ?_
            obtain ⟨h28, hf⟩ := zc_sp hf
            refine z_aald (ty := .array .int) X zc_33 zl_33 rfl rfl (zin_sp h28) dX0_measure_84 ?_
            refine z_iload_n X dX0_measure_85 rfl 1 rfl ?_
            obtain ⟨h29, hf⟩ := zc_sp hf
            refine z_iald X (zc_rrow (zin_lt h28)) (zl_rrow (zin_lt h28)) (zin_sp h29) dX0_measure_86 ?_
            refine pf_X0_27 X dX0_measure_87 ?_
            refine z_nmM hf (fun M30 hf => ?_)
            refine z_aload_n X dX0_measure_90 rfl 2 rfl ?_
            refine z_iload_n X dX0_measure_91 rfl 3 rfl ?_
            refine pf_X0_24 X dX0_measure_92 ?_
            refine z_nmM hf (fun M31 hf => ?_)
            refine z_aload_n X dX0_measure_95 rfl 2 rfl ?_
            refine z_iload_n X dX0_measure_96 rfl 1 rfl ?_
            refine pf_X0_30 X dX0_measure_97 ?_
            refine z_nmM hf (fun M32 hf => ?_)
            exact hj25 M32 hf
      clear k14e
      refine z_if_eq (tgt := 56) X dX0_measure_33 (by decide) (fun h20 => ?_) (fun h20 => ?_)
      · have hf := zt h20 hf
        refine z_iconst (v := (0 : Int32)) X dX0_measure_56 (by decide) ?_
        exact hj15 (0 : Int32) hf
      · have hf := zf h20 hf
        refine z_iconst (v := (1 : Int32)) X dX0_measure_36 (by decide) ?_
        refine z_aload_n X dX0_measure_37 rfl 2 rfl ?_
        refine z_iload_n X dX0_measure_38 rfl 3 rfl ?_
        refine z_iconst (v := (1 : Int32)) X dX0_measure_39 (by decide) ?_
        refine z_iadd X dX0_measure_40 ?_
        refine z_aload_n X dX0_measure_41 rfl 2 rfl ?_
        refine z_iload_n X dX0_measure_42 rfl 3 rfl ?_
        refine z_iconst (v := (1 : Int32)) X dX0_measure_43 (by decide) ?_
        refine z_iadd X dX0_measure_44 ?_
        refine z_iload_n X dX0_measure_45 rfl 1 rfl ?_
        obtain ⟨r17, h16, hf⟩ := zb1_sp hf
        refine gc_X0_80 (st := [.int (p1 + (1 : Int32)), .ref (G.1 32), .int (1 : Int32), .int x1, .ref (G.1 (34 + p1.toNatClampNeg))]) X (mtX0_lowestOnward κ.2.1 κ.2.2.2.2.2.2.2.2.2.2.1 G  h16) rfl rfl (Nat.le_of_ble_eq_true rfl) (Nat.le_of_ble_eq_true rfl) (Nat.le_of_ble_eq_true rfl) dX0_measure_46 ?_
        obtain ⟨r19, h18, hf⟩ := zb1_sp hf
        refine gc_X0_83 (st := [.int (1 : Int32), .int x1, .ref (G.1 (34 + p1.toNatClampNeg))]) X (mtX0_reachAt κ.2.1 κ.2.2.2.2.2.2.2.2.2.2.1 G  h18) rfl rfl (Nat.le_of_ble_eq_true rfl) (Nat.le_of_ble_eq_true rfl) (Nat.le_of_ble_eq_true rfl) dX0_measure_49 ?_
        refine z_iadd X dX0_measure_52 ?_
        refine z_goto (tgt := 57) X dX0_measure_53 (by decide) ?_
        exact hj15 ((1 : Int32) + r19) hf
    refine z_icmp_ne (tgt := 21) X dX0_measure_14 (by decide) (fun h10 => ?_) (fun h10 => ?_)
    · try simp only [if_neg h10] at hj
      refine z_iconst (v := (0 : Int32)) X dX0_measure_21 (by decide) ?_
      exact hj
    · try simp only [if_pos h10] at hj
      refine z_iconst (v := (1 : Int32)) X dX0_measure_17 (by decide) ?_
      refine z_goto (tgt := 22) X dX0_measure_18 (by decide) ?_
      exact hj
set_option maxHeartbeats 4000000 in
set_option maxRecDepth 100000 in
theorem mtX0_follow (l : Launch) (D : va_G) (G : zG) {M : zMem} {F : Int64} {Mo : zMem} (hf : fX0_follow M = some Mo) : zCM l yX0_follow wX0_follow { frames := 3, cells := 0, slots := 0, locals := 66 } D G [.ref (G.1 32)] M F none Mo F := by
  refine zCM.ofV (own := RX0) (cc := cX0_follow) (maxL := 3) (ret := none) (lv := [(0, .ref (G.1 32))]) (by decide) rfl rfl (Nat.le_of_ble_eq_true rfl) rfl (fun κ X Z hm hκ1 hκ2 => ?_)
  subst hκ1 hκ2
  unfold fX0_follow at hf
  refine z_aload_n X dX0_follow_0 rfl 0 rfl ?_
  refine z_iconst (v := (0 : Int32)) X dX0_follow_1 (by decide) ?_
  refine pf_X0_33 X dX0_follow_2 ?_
  refine z_nmM hf (fun M1 hf => ?_)
  refine z_aload_n X dX0_follow_5 rfl 0 rfl ?_
  refine gf_X0_30 X dX0_follow_6 ?_
  refine z_nmI hf (fun x2 hf => ?_)
  refine z_istore_n (lv' := [(1, .int x2), (0, .ref (G.1 32))]) X dX0_follow_9 rfl hm (by decide) rfl ?_
  refine z_aload_n X dX0_follow_10 rfl 1 rfl ?_
  refine gf_X0_24 X dX0_follow_11 ?_
  refine z_nmI hf (fun x3 hf => ?_)
  refine z_istore_n (lv' := [(2, .int x3), (1, .int x2), (0, .ref (G.1 32))]) X dX0_follow_14 rfl hm (by decide) rfl ?_
  obtain ⟨b12, hb13, hf⟩ := zb1_sp hf
  have hX7 : ∀ t, t = b12 → zu3 (fun (x21 : Int32) (x22 : Int32) (M23 : zMem) => zV κ G 66 [(2, .int x21), (1, .int x22), (0, .ref (G.1 32))] [] M23 F) t := by
    intro t ht
    subst ht
    obtain ⟨x21, x22, M23⟩ := t
    show zV κ G 66 [(2, .int x21), (1, .int x22), (0, .ref (G.1 32))] [] M23 F
    exact z_vret X (zR_M hf Z) dX0_follow_66
  refine zlp_walk (P := zu3 (fun (x4 : Int32) (x5 : Int32) (M6 : zMem) => zV κ G 15 [(2, .int x4), (1, .int x5), (0, .ref (G.1 32))] [] M6 F)) (fun a24 w11 hf hi9 hx10 => ?_) _ _ hb13
  obtain ⟨x4, x5, M6⟩ := a24
  show zV κ G 15 [(2, .int x4), (1, .int x5), (0, .ref (G.1 32))] [] M6 F
  replace hf : fX0_follow_L15 x4 x5 M6 = some w11 := hf
  unfold fX0_follow_L15 at hf
  refine z_iload_n X dX0_follow_15 rfl 0 rfl ?_
  refine z_aload_n X dX0_follow_16 rfl 2 rfl ?_
  refine gf_X0_24 X dX0_follow_17 ?_
  refine z_aload_n X dX0_follow_20 rfl 2 rfl ?_
  refine gf_X0_27 X dX0_follow_21 ?_
  refine z_iadd X dX0_follow_24 ?_
  refine z_icmp_ge (tgt := 66) X dX0_follow_25 (by decide) (fun h20 => ?_) (fun h20 => ?_)
  · have hf := zt h20 hf
    have hq := hX7 _ (hx10 _ (Option.some.inj hf).symm)
    exact hq
  · have hf := zf h20 hf
    refine z_iload_n X dX0_follow_28 rfl 0 rfl ?_
    refine z_bipush (v := (24 : Int32)) X dX0_follow_29 (by decide) ?_
    refine z_icmp_ge (tgt := 66) X dX0_follow_31 (by decide) (fun h19 => ?_) (fun h19 => ?_)
    · have hf := zt h19 hf
      have hq := hX7 _ (hx10 _ (Option.some.inj hf).symm)
      exact hq
    · have hf := zf h19 hf
      refine z_aload_n X dX0_follow_34 rfl 2 rfl ?_
      refine gf_X0_16 X dX0_follow_35 ?_
      refine z_iload_n X dX0_follow_38 rfl 0 rfl ?_
      refine z_iload_n X dX0_follow_39 rfl 1 rfl ?_
      obtain ⟨h14, hf⟩ := zc_sp hf
      refine z_iast X zc_58 zl_58 (zin_sp h14) dX0_follow_40 ?_
      refine z_nmM hf (fun M15 hf => ?_)
      refine z_aload_n X dX0_follow_41 rfl 2 rfl ?_
      refine z_dup X dX0_follow_42 rfl ?_
      refine gf_X0_33 X dX0_follow_43 ?_
      refine z_iload_n X dX0_follow_46 rfl 1 rfl ?_
      refine z_iadd X dX0_follow_47 ?_
      refine pf_X0_33 X dX0_follow_48 ?_
      refine z_nmM hf (fun M16 hf => ?_)
      refine z_aload_n X dX0_follow_51 rfl 2 rfl ?_
      refine z_iload_n X dX0_follow_52 rfl 0 rfl ?_
      refine z_iconst (v := (1 : Int32)) X dX0_follow_53 (by decide) ?_
      refine z_iadd X dX0_follow_54 ?_
      refine z_iload_n X dX0_follow_55 rfl 1 rfl ?_
      obtain ⟨r18, h17, hf⟩ := zb1_sp hf
      refine gc_X0_80 (st := []) X (mtX0_lowestOnward κ.2.1 κ.2.2.2.2.2.2.2.2.2.2.1 G  h17) rfl rfl (Nat.le_of_ble_eq_true rfl) (Nat.le_of_ble_eq_true rfl) (Nat.le_of_ble_eq_true rfl) dX0_follow_56 ?_
      refine z_istore_n (lv' := [(1, .int r18), (2, .int x4), (0, .ref (G.1 32))]) X dX0_follow_59 rfl hm (by decide) rfl ?_
      refine z_iinc (lv' := [(2, .int (x4 + (1 : Int32))), (1, .int r18), (0, .ref (G.1 32))]) (v := x4 + (1 : Int32)) X dX0_follow_60 (j := 1) rfl rfl hm (by decide) rfl ?_
      refine z_goto (tgt := 15) X dX0_follow_63 (by decide) ?_
      have hq := hi9 _ (Option.some.inj hf).symm
      exact hq
set_option maxHeartbeats 4000000 in
set_option maxRecDepth 100000 in
theorem mtX0_find (l : Launch) (D : va_G) (G : zG) {M : zMem} {F : Int64} {Mo : zMem} (hf : fX0_find M = some Mo) : zCM l yX0_find wX0_find { frames := 4, cells := 0, slots := 0, locals := 90 } D G [.ref (G.1 32), .ref (G.1 1)] M F none Mo F := by
  refine zCM.ofV (own := RX0) (cc := cX0_find) (maxL := 3) (ret := none) (lv := [(0, .ref (G.1 32)), (1, .ref (G.1 1))]) (by decide) rfl rfl (Nat.le_of_ble_eq_true rfl) rfl (fun κ X Z hm hκ1 hκ2 => ?_)
  subst hκ1 hκ2
  unfold fX0_find at hf
  refine z_aload_n X dX0_find_0 rfl 0 rfl ?_
  refine z_aload_n X dX0_find_1 rfl 1 rfl ?_
  obtain ⟨r2, h1, hf⟩ := zb1_sp hf
  refine gc_X0_36 (st := [.ref (G.1 32)]) X (mtX4_width κ.2.1 κ.2.2.2.2.2.2.2.2.2.2.1 G  h1) rfl rfl (Nat.le_of_ble_eq_true rfl) (Nat.le_of_ble_eq_true rfl) (Nat.le_of_ble_eq_true rfl) dX0_find_2 ?_
  refine z_bipush (v := (24 : Int32)) X dX0_find_5 (by decide) ?_
  refine z_mmin X (List.mem_cons_of_mem _ zw_29_11) (List.mem_cons_of_mem _ zw_6_3) (List.mem_cons_of_mem _ zw_6_4) (List.mem_cons_of_mem _ zw_6_5) (Nat.le_of_ble_eq_true rfl) (Nat.le_of_ble_eq_true rfl) dX0_find_7 ?_
  refine pf_X0_20 X dX0_find_10 ?_
  refine z_nmM hf (fun M3 hf => ?_)
  refine z_aload_n X dX0_find_13 rfl 0 rfl ?_
  refine z_iconst (v := (0 : Int32)) X dX0_find_14 (by decide) ?_
  refine pf_X0_27 X dX0_find_15 ?_
  refine z_nmM hf (fun M4 hf => ?_)
  refine z_aload_n X dX0_find_18 rfl 0 rfl ?_
  refine gf_X0_20 X dX0_find_19 ?_
  refine z_iconst (v := (1 : Int32)) X dX0_find_22 (by decide) ?_
  refine z_isub X dX0_find_23 ?_
  refine z_nmI hf (fun x5 hf => ?_)
  refine z_istore_n (lv' := [(2, .int x5), (0, .ref (G.1 32)), (1, .ref (G.1 1))]) X dX0_find_24 rfl hm (by decide) rfl ?_
  obtain ⟨b13, hb14, hf⟩ := zb1_sp hf
  have hX8 : ∀ t, t = b13 → zu2 (fun (x20 : Int32) (M21 : zMem) => zV κ G 45 [(2, .int x20), (0, .ref (G.1 32)), (1, .ref (G.1 1))] [] M21 F) t := by
    intro t ht
    subst ht
    obtain ⟨x20, M21⟩ := t
    show zV κ G 45 [(2, .int x20), (0, .ref (G.1 32)), (1, .ref (G.1 1))] [] M21 F
    refine z_aload_n X dX0_find_45 rfl 1 rfl ?_
    obtain ⟨M23, h22, hf⟩ := zb1_sp hf
    refine gc_X0_55 (st := []) X (mtX0_follow κ.2.1 κ.2.2.2.2.2.2.2.2.2.2.1 G  h22) rfl rfl (Nat.le_of_ble_eq_true rfl) (Nat.le_of_ble_eq_true rfl) (Nat.le_of_ble_eq_true rfl) dX0_find_46 ?_
    exact z_vret X (zR_M hf Z) dX0_find_49
  refine zlp_walk (P := zu2 (fun (x6 : Int32) (M7 : zMem) => zV κ G 25 [(2, .int x6), (0, .ref (G.1 32)), (1, .ref (G.1 1))] [] M7 F)) (fun a24 w12 hf hi10 hx11 => ?_) _ _ hb14
  obtain ⟨x6, M7⟩ := a24
  show zV κ G 25 [(2, .int x6), (0, .ref (G.1 32)), (1, .ref (G.1 1))] [] M7 F
  replace hf : fX0_find_L25 x6 M7 = some w12 := hf
  unfold fX0_find_L25 at hf
  refine z_iload_n X dX0_find_25 rfl 0 rfl ?_
  refine z_if_lt (tgt := 45) X dX0_find_26 (by decide) (fun h19 => ?_) (fun h19 => ?_)
  · have hf := zt h19 hf
    have hq := hX8 _ (hx11 _ (Option.some.inj hf).symm)
    exact hq
  · have hf := zf h19 hf
    refine z_aload_n X dX0_find_29 rfl 1 rfl ?_
    refine z_iload_n X dX0_find_30 rfl 0 rfl ?_
    refine z_aload_n X dX0_find_31 rfl 2 rfl ?_
    refine z_iload_n X dX0_find_32 rfl 0 rfl ?_
    obtain ⟨r16, h15, hf⟩ := zb1_sp hf
    refine gc_X0_47 (st := [.int x6, .ref (G.1 32)]) X (mtX4_feet κ.2.1 κ.2.2.2.2.2.2.2.2.2.2.1 G  h15) rfl rfl (Nat.le_of_ble_eq_true rfl) (Nat.le_of_ble_eq_true rfl) (Nat.le_of_ble_eq_true rfl) dX0_find_33 ?_
    obtain ⟨M18, h17, hf⟩ := zb1_sp hf
    refine gc_X0_51 (st := []) X (mtX0_measure κ.2.1 κ.2.2.2.2.2.2.2.2.2.2.1 G  h17) rfl rfl (Nat.le_of_ble_eq_true rfl) (Nat.le_of_ble_eq_true rfl) (Nat.le_of_ble_eq_true rfl) dX0_find_36 ?_
    refine z_iinc (lv' := [(2, .int (x6 + (-1 : Int32))), (0, .ref (G.1 32)), (1, .ref (G.1 1))]) (v := x6 + (-1 : Int32)) X dX0_find_39 (j := 0) rfl rfl hm (by decide) rfl ?_
    refine z_goto (tgt := 25) X dX0_find_42 (by decide) ?_
    have hq := hi10 _ (Option.some.inj hf).symm
    exact hq
set_option maxHeartbeats 4000000 in
set_option maxRecDepth 100000 in
theorem mtX0_first (l : Launch) (D : va_G) (G : zG) {M : zMem} {F : Int64} {ro : Int32} (hf : fX0_first M = some ro) : zCM l yX0_first wX0_first { frames := 0, cells := 0, slots := 0, locals := 0 } D G [.ref (G.1 32)] M F (some (.int ro)) M F := by
  refine zCM.ofV (own := RX0) (cc := cX0_first) (maxL := 1) (ret := (some .int)) (lv := [(0, .ref (G.1 32))]) (by decide) rfl rfl (Nat.le_of_ble_eq_true rfl) rfl (fun κ X Z hm hκ1 hκ2 => ?_)
  subst hκ1 hκ2
  unfold fX0_first at hf
  refine z_aload_n X dX0_first_0 rfl 0 rfl ?_
  refine gf_X0_24 X dX0_first_1 ?_
  exact z_iret X (zR_i hf Z) dX0_first_4
set_option maxHeartbeats 4000000 in
set_option maxRecDepth 100000 in
theorem mtX0_length (l : Launch) (D : va_G) (G : zG) {M : zMem} {F : Int64} {ro : Int32} (hf : fX0_length M = some ro) : zCM l yX0_length wX0_length { frames := 0, cells := 0, slots := 0, locals := 0 } D G [.ref (G.1 32)] M F (some (.int ro)) M F := by
  refine zCM.ofV (own := RX0) (cc := cX0_length) (maxL := 1) (ret := (some .int)) (lv := [(0, .ref (G.1 32))]) (by decide) rfl rfl (Nat.le_of_ble_eq_true rfl) rfl (fun κ X Z hm hκ1 hκ2 => ?_)
  subst hκ1 hκ2
  unfold fX0_length at hf
  refine z_aload_n X dX0_length_0 rfl 0 rfl ?_
  refine gf_X0_27 X dX0_length_1 ?_
  exact z_iret X (zR_i hf Z) dX0_length_4
set_option maxHeartbeats 4000000 in
set_option maxRecDepth 100000 in
theorem mtX0_height (l : Launch) (D : va_G) (G : zG) {M : zMem} {F : Int64} {ro : Int32} (hf : fX0_height M = some ro) : zCM l yX0_height wX0_height { frames := 0, cells := 0, slots := 0, locals := 0 } D G [.ref (G.1 32)] M F (some (.int ro)) M F := by
  refine zCM.ofV (own := RX0) (cc := cX0_height) (maxL := 1) (ret := (some .int)) (lv := [(0, .ref (G.1 32))]) (by decide) rfl rfl (Nat.le_of_ble_eq_true rfl) rfl (fun κ X Z hm hκ1 hκ2 => ?_)
  subst hκ1 hκ2
  unfold fX0_height at hf
  refine z_aload_n X dX0_height_0 rfl 0 rfl ?_
  refine gf_X0_27 X dX0_height_1 ?_
  obtain ⟨k2, k2e, hf⟩ := zj_sp hf
  have hj3 : ∀ (x1 : Int32), k2 x1 = some ro → zV κ G 29 [(0, .ref (G.1 32))] [.int x1] M F := by
    intro x1 hf
    rw [k2e] at hf
    exact z_iret X (zR_i hf Z) dX0_height_29
  clear k2e
  refine z_if_le (tgt := 28) X dX0_height_4 (by decide) (fun h5 => ?_) (fun h5 => ?_)
  · have hf := zt h5 hf
    refine z_iconst (v := (0 : Int32)) X dX0_height_28 (by decide) ?_
    exact hj3 (0 : Int32) hf
  · have hf := zf h5 hf
    refine z_iconst (v := (2 : Int32)) X dX0_height_7 (by decide) ?_
    refine z_aload_n X dX0_height_8 rfl 0 rfl ?_
    refine gf_X0_33 X dX0_height_9 ?_
    refine z_imul X dX0_height_12 ?_
    refine z_aload_n X dX0_height_13 rfl 0 rfl ?_
    refine gf_X0_27 X dX0_height_14 ?_
    refine z_iadd X dX0_height_17 ?_
    refine z_iconst (v := (2 : Int32)) X dX0_height_18 (by decide) ?_
    refine z_aload_n X dX0_height_19 rfl 0 rfl ?_
    refine gf_X0_27 X dX0_height_20 ?_
    refine z_imul X dX0_height_23 ?_
    obtain ⟨h4, hf⟩ := zc_sp hf
    refine z_idiv X dX0_height_24 (of_decide_eq_true h4) ?_
    refine z_goto (tgt := 29) X dX0_height_25 (by decide) ?_
    exact hj3 ((((2 : Int32) * (M 32 6)) + (M 32 4)) / ((2 : Int32) * (M 32 4))) hf
set_option maxHeartbeats 4000000 in
set_option maxRecDepth 100000 in
theorem mtX0_covers (l : Launch) (D : va_G) (G : zG) {p1 : Int32} {M : zMem} {F : Int64} {ro : Int32} (hf : fX0_covers p1 M = some ro) : zCM l yX0_covers wX0_covers { frames := 0, cells := 0, slots := 0, locals := 0 } D G [.ref (G.1 32), .int p1] M F (some (.int ro)) M F := by
  refine zCM.ofV (own := RX0) (cc := cX0_covers) (maxL := 2) (ret := (some .boolean)) (lv := [(0, .ref (G.1 32)), (1, .int p1)]) (by decide) rfl rfl (Nat.le_of_ble_eq_true rfl) rfl (fun κ X Z hm hκ1 hκ2 => ?_)
  subst hκ1 hκ2
  unfold fX0_covers at hf
  refine z_iload_n X dX0_covers_0 rfl 1 rfl ?_
  refine z_aload_n X dX0_covers_1 rfl 0 rfl ?_
  refine gf_X0_24 X dX0_covers_2 ?_
  have hj : zV κ G 26 [(0, .ref (G.1 32)), (1, .int p1)] [.int (if p1 < (M 32 3) then (0 : Int32) else (if ((M 32 3) + (M 32 4)) ≤ p1 then (0 : Int32) else (1 : Int32)))] M F := by
    exact z_zret X (z01_ite (Or.inl rfl) (z01_ite (Or.inl rfl) (Or.inr rfl))) (zR_i hf Z) dX0_covers_26
  refine z_icmp_lt (tgt := 25) X dX0_covers_5 (by decide) (fun h1 => ?_) (fun h1 => ?_)
  · try simp only [if_pos h1] at hj
    refine z_iconst (v := (0 : Int32)) X dX0_covers_25 (by decide) ?_
    exact hj
  · try simp only [if_neg h1] at hj
    refine z_iload_n X dX0_covers_8 rfl 1 rfl ?_
    refine z_aload_n X dX0_covers_9 rfl 0 rfl ?_
    refine gf_X0_24 X dX0_covers_10 ?_
    refine z_aload_n X dX0_covers_13 rfl 0 rfl ?_
    refine gf_X0_27 X dX0_covers_14 ?_
    refine z_iadd X dX0_covers_17 ?_
    refine z_icmp_ge (tgt := 25) X dX0_covers_18 (by decide) (fun h2 => ?_) (fun h2 => ?_)
    · try simp only [if_pos h2] at hj
      refine z_iconst (v := (0 : Int32)) X dX0_covers_25 (by decide) ?_
      exact hj
    · try simp only [if_neg h2] at hj
      refine z_iconst (v := (1 : Int32)) X dX0_covers_21 (by decide) ?_
      refine z_goto (tgt := 26) X dX0_covers_22 (by decide) ?_
      exact hj
set_option maxHeartbeats 4000000 in
set_option maxRecDepth 100000 in
theorem mtX0_footRow (l : Launch) (D : va_G) (G : zG) {p1 : Int32} {M : zMem} {F : Int64} {ro : Int32} (hf : fX0_footRow p1 M = some ro) : zCM l yX0_footRow wX0_footRow { frames := 1, cells := 0, slots := 0, locals := 21 } D G [.ref (G.1 32), .int p1] M F (some (.int ro)) M F := by
  refine zCM.ofV (own := RX0) (cc := cX0_footRow) (maxL := 2) (ret := (some .int)) (lv := [(0, .ref (G.1 32)), (1, .int p1)]) (by decide) rfl rfl (Nat.le_of_ble_eq_true rfl) rfl (fun κ X Z hm hκ1 hκ2 => ?_)
  subst hκ1 hκ2
  unfold fX0_footRow at hf
  refine z_aload_n X dX0_footRow_0 rfl 0 rfl ?_
  refine z_iload_n X dX0_footRow_1 rfl 1 rfl ?_
  obtain ⟨r2, h1, hf⟩ := zb1_sp hf
  refine gc_X0_58 (st := []) X (mtX0_covers κ.2.1 κ.2.2.2.2.2.2.2.2.2.2.1 G  h1) rfl rfl (Nat.le_of_ble_eq_true rfl) (Nat.le_of_ble_eq_true rfl) (Nat.le_of_ble_eq_true rfl) dX0_footRow_2 ?_
  obtain ⟨k4, k4e, hf⟩ := zj_sp hf
  have hj5 : ∀ (x3 : Int32), k4 x3 = some ro → zV κ G 19 [(0, .ref (G.1 32)), (1, .int p1)] [.int x3] M F := by
    intro x3 hf
    rw [k4e] at hf
    exact z_iret X (zR_i hf Z) dX0_footRow_19
  clear k4e
  refine z_if_eq (tgt := 17) X dX0_footRow_5 (by decide) (fun h7 => ?_) (fun h7 => ?_)
  · have hf := zt h7 hf
    refine z_bipush (v := (-9 : Int32)) X dX0_footRow_17 (by decide) ?_
    exact hj5 (-9 : Int32) hf
  · have hf := zf h7 hf
    refine z_aload_n X dX0_footRow_8 rfl 0 rfl ?_
    refine gf_X0_16 X dX0_footRow_9 ?_
    refine z_iload_n X dX0_footRow_12 rfl 1 rfl ?_
    obtain ⟨h6, hf⟩ := zc_sp hf
    refine z_iald X zc_58 zl_58 (zin_sp h6) dX0_footRow_13 ?_
    refine z_goto (tgt := 19) X dX0_footRow_14 (by decide) ?_
    exact hj5 (M 58 p1.toNatClampNeg) hf
set_option maxHeartbeats 4000000 in
set_option maxRecDepth 100000 in
theorem mtX0_bend (l : Launch) (D : va_G) (G : zG) {p1 : Int32} {M : zMem} {F : Int64} {ro : Int32} (hf : fX0_bend p1 M = some ro) : zCM l yX0_bend wX0_bend { frames := 2, cells := 0, slots := 0, locals := 42 } D G [.ref (G.1 32), .int p1] M F (some (.int ro)) M F := by
  refine zCM.ofV (own := RX0) (cc := cX0_bend) (maxL := 3) (ret := (some .int)) (lv := [(0, .ref (G.1 32)), (1, .int p1)]) (by decide) rfl rfl (Nat.le_of_ble_eq_true rfl) rfl (fun κ X Z hm hκ1 hκ2 => ?_)
  subst hκ1 hκ2
  unfold fX0_bend at hf
  refine z_aload_n X dX0_bend_0 rfl 0 rfl ?_
  refine gf_X0_24 X dX0_bend_1 ?_
  refine z_iload_n X dX0_bend_4 rfl 1 rfl ?_
  refine z_aload_n X dX0_bend_5 rfl 0 rfl ?_
  refine gf_X0_24 X dX0_bend_6 ?_
  refine z_aload_n X dX0_bend_9 rfl 0 rfl ?_
  refine gf_X0_27 X dX0_bend_10 ?_
  refine z_iadd X dX0_bend_13 ?_
  refine z_iconst (v := (1 : Int32)) X dX0_bend_14 (by decide) ?_
  refine z_isub X dX0_bend_15 ?_
  refine z_mmin X (List.mem_cons_of_mem _ zw_29_11) (List.mem_cons_of_mem _ zw_6_3) (List.mem_cons_of_mem _ zw_6_4) (List.mem_cons_of_mem _ zw_6_5) (Nat.le_of_ble_eq_true rfl) (Nat.le_of_ble_eq_true rfl) dX0_bend_16 ?_
  refine z_mmax X (List.mem_cons_of_mem _ zw_33_8) (List.mem_cons_of_mem _ zw_6_7) (List.mem_cons_of_mem _ zw_6_4) (List.mem_cons_of_mem _ zw_6_8) (Nat.le_of_ble_eq_true rfl) (Nat.le_of_ble_eq_true rfl) dX0_bend_19 ?_
  refine z_nmI hf (fun x1 hf => ?_)
  refine z_istore_n (lv' := [(2, .int x1), (0, .ref (G.1 32)), (1, .int p1)]) X dX0_bend_22 rfl hm (by decide) rfl ?_
  refine z_aload_n X dX0_bend_23 rfl 1 rfl ?_
  refine z_iload_n X dX0_bend_24 rfl 0 rfl ?_
  obtain ⟨r3, h2, hf⟩ := zb1_sp hf
  refine gc_X0_65 (st := []) X (mtX0_footRow κ.2.1 κ.2.2.2.2.2.2.2.2.2.2.1 G  h2) rfl rfl (Nat.le_of_ble_eq_true rfl) (Nat.le_of_ble_eq_true rfl) (Nat.le_of_ble_eq_true rfl) dX0_bend_25 ?_
  refine z_aload_n X dX0_bend_28 rfl 1 rfl ?_
  obtain ⟨r5, h4, hf⟩ := zb1_sp hf
  refine gc_X0_68 (st := [.int r3]) X (mtX0_height κ.2.1 κ.2.2.2.2.2.2.2.2.2.2.1 G  h4) rfl rfl (Nat.le_of_ble_eq_true rfl) (Nat.le_of_ble_eq_true rfl) (Nat.le_of_ble_eq_true rfl) dX0_bend_29 ?_
  refine z_isub X dX0_bend_32 ?_
  exact z_iret X (zR_i hf Z) dX0_bend_33
set_option maxHeartbeats 4000000 in
set_option maxRecDepth 100000 in
theorem mtX1_packed (l : Launch) (D : va_G) (G : zG) {p0 : Int32} {p1 : Int64} {p3 : Int32} {p4 : Int32} {M : zMem} {F : Int64} {ro : Int64} (hf : fX1_packed p0 p1 p3 p4 = some ro) : zCM l yX1_packed wX1_packed { frames := 0, cells := 0, slots := 0, locals := 0 } D G [.int p0, .long p1, .int p3, .int p4] M F (some (.long ro)) M F := by
  refine zCM.ofV (own := RX1) (cc := cX1_packed) (maxL := 5) (ret := (some .long)) (lv := [(0, .int p0), (1, .long p1), (3, .int p3), (4, .int p4)]) (by decide) rfl rfl (Nat.le_of_ble_eq_true rfl) rfl (fun κ X Z hm hκ1 hκ2 => ?_)
  subst hκ1 hκ2
  unfold fX1_packed at hf
  refine z_iload_n X dX1_packed_0 rfl 0 rfl ?_
  refine z_iload X dX1_packed_1 3 rfl ?_
  refine z_iadd X dX1_packed_3 ?_
  refine z_i2l X dX1_packed_4 ?_
  refine z_iload_n X dX1_packed_5 rfl 2 rfl ?_
  refine z_lshl X dX1_packed_6 ?_
  refine z_lload_n X dX1_packed_7 rfl 1 rfl ?_
  refine z_ladd X dX1_packed_8 ?_
  refine z_lconst (v := (1 : Int64)) X dX1_packed_9 (by decide) ?_
  refine z_iload_n X dX1_packed_10 rfl 2 rfl ?_
  refine z_lshl X dX1_packed_11 ?_
  refine z_lsub X dX1_packed_12 ?_
  exact z_lret X (zR_l hf Z) dX1_packed_13
set_option maxHeartbeats 4000000 in
set_option maxRecDepth 100000 in
theorem mtX1_nearest (l : Launch) (D : va_G) (G : zG) {p0 : Int64} {p2 : Int64} {p4 : Int32} {p5 : Int32} {M : zMem} {F : Int64} {ro : Int64} (hf : fX1_nearest p0 p2 p4 p5 = some ro) : zCM l yX1_nearest wX1_nearest { frames := 1, cells := 0, slots := 0, locals := 24 } D G [.long p0, .long p2, .int p4, .int p5] M F (some (.long ro)) M F := by
  refine zCM.ofV (own := RX1) (cc := cX1_nearest) (maxL := 15) (ret := (some .long)) (lv := [(0, .long p0), (2, .long p2), (4, .int p4), (5, .int p5)]) (by decide) rfl rfl (Nat.le_of_ble_eq_true rfl) rfl (fun κ X Z hm hκ1 hκ2 => ?_)
  subst hκ1 hκ2
  unfold fX1_nearest at hf
  refine z_lload_n X dX1_nearest_0 rfl 0 rfl ?_
  refine z_lconst (v := (0 : Int64)) X dX1_nearest_1 (by decide) ?_
  refine z_lcmp X dX1_nearest_2 ?_
  refine z_if_le (tgt := 12) X dX1_nearest_3 (by decide) (fun h41 => ?_) (fun h41 => ?_)
  · have hf := zt h41 hf
    refine z_lconst (v := (0 : Int64)) X dX1_nearest_12 (by decide) ?_
    exact z_lret X (zR_l hf Z) dX1_nearest_13
  · have hf := zf h41 hf
    refine z_lload_n X dX1_nearest_6 rfl 1 rfl ?_
    refine z_lconst (v := (0 : Int64)) X dX1_nearest_7 (by decide) ?_
    refine z_lcmp X dX1_nearest_8 ?_
    refine z_if_gt (tgt := 14) X dX1_nearest_9 (by decide) (fun h40 => ?_) (fun h40 => ?_)
    · have hf := zt h40 hf
      refine z_lload_n X dX1_nearest_14 rfl 0 rfl ?_
      refine z_lstore (lv' := [(6, .long p0), (0, .long p0), (2, .long p2), (4, .int p4), (5, .int p5)]) X dX1_nearest_15 hm (by decide) rfl ?_
      refine z_lload_n X dX1_nearest_17 rfl 2 rfl ?_
      refine z_lstore (lv' := [(8, .long p2), (6, .long p0), (0, .long p0), (2, .long p2), (4, .int p4), (5, .int p5)]) X dX1_nearest_18 hm (by decide) rfl ?_
      refine z_iconst (v := (0 : Int32)) X dX1_nearest_20 (by decide) ?_
      refine z_istore (lv' := [(10, .int (0 : Int32)), (8, .long p2), (6, .long p0), (0, .long p0), (2, .long p2), (4, .int p4), (5, .int p5)]) X dX1_nearest_21 hm (by decide) rfl ?_
      refine z_sub [0, 1, 2, 5, 6] rfl ?_
      obtain ⟨b8, hb9, hf⟩ := zb1_sp hf
      have hX3 : ∀ t, t = b8 → zu2 (fun (x13 : Int32) (x14 : Int64) => zV κ G 56 [(10, .int x13), (8, .long x14), (6, .long p0), (4, .int p4), (5, .int p5)] [] M F) t := by
        intro t ht
        subst ht
        obtain ⟨x13, x14⟩ := t
        show zV κ G 56 [(10, .int x13), (8, .long x14), (6, .long p0), (4, .int p4), (5, .int p5)] [] M F
        obtain ⟨b22, hb23, hf⟩ := zb1_sp hf
        have hX17 : ∀ t, t = b22 → zu2 (fun (x27 : Int32) (x28 : Int64) => zV κ G 85 [(10, .int x27), (8, .long x14), (6, .long x28), (4, .int p4), (5, .int p5)] [] M F) t := by
          intro t ht
          subst ht
          obtain ⟨x27, x28⟩ := t
          show zV κ G 85 [(10, .int x27), (8, .long x14), (6, .long x28), (4, .int p4), (5, .int p5)] [] M F
          refine z_lload X dX1_nearest_85 2 rfl ?_
          refine z_iload X dX1_nearest_87 3 rfl ?_
          refine z_lshl X dX1_nearest_89 ?_
          refine z_lload X dX1_nearest_90 1 rfl ?_
          obtain ⟨h29, hf⟩ := zc_sp hf
          refine z_ldiv X dX1_nearest_92 (of_decide_eq_true h29) ?_
          refine z_nmL hf (fun x30 hf => ?_)
          refine z_lstore (lv' := [(11, .long x30), (10, .int x27), (8, .long x14), (6, .long x28), (4, .int p4), (5, .int p5)]) X dX1_nearest_93 hm (by decide) rfl ?_
          refine z_ldc2 (v := (2 : Int64)) X dX1_nearest_95 (List.mem_cons_of_mem _ zw_34_10) ?_
          refine z_lload X dX1_nearest_98 3 rfl ?_
          refine z_iload X dX1_nearest_100 4 rfl ?_
          refine z_lshl X dX1_nearest_102 ?_
          refine z_lload X dX1_nearest_103 2 rfl ?_
          obtain ⟨h31, hf⟩ := zc_sp hf
          refine z_lrem X dX1_nearest_105 (of_decide_eq_true h31) ?_
          refine z_lmul X dX1_nearest_106 ?_
          refine z_nmL hf (fun x32 hf => ?_)
          refine z_lstore (lv' := [(13, .long x32), (11, .long x30), (10, .int x27), (8, .long x14), (6, .long x28), (4, .int p4), (5, .int p5)]) X dX1_nearest_107 hm (by decide) rfl ?_
          refine z_lload X dX1_nearest_109 0 rfl ?_
          refine z_lload X dX1_nearest_111 3 rfl ?_
          refine z_lcmp X dX1_nearest_113 ?_
          have hj : zV κ G 140 [(11, .long (if 0 < (lg_cmp x32 x14) then (x30 + (1 : Int64)) else (if (lg_cmp x32 x14) = 0 then (if (lg_cmp (x30 &&& (1 : Int64)) (1 : Int64)) = 0 then (x30 + (1 : Int64)) else x30) else x30))), (13, .long x32), (10, .int x27), (8, .long x14), (6, .long x28), (4, .int p4), (5, .int p5)] [] M F := by
            refine z_iload X dX1_nearest_140 2 rfl ?_
            refine z_lload X dX1_nearest_142 0 rfl ?_
            refine z_iload X dX1_nearest_144 5 rfl ?_
            refine z_iload X dX1_nearest_146 6 rfl ?_
            obtain ⟨r37, h36, hf⟩ := zb1_sp hf
            refine gc_X1_22 (st := []) X (mtX1_packed κ.2.1 κ.2.2.2.2.2.2.2.2.2.2.1 G  h36) rfl rfl (Nat.le_of_ble_eq_true rfl) (Nat.le_of_ble_eq_true rfl) (Nat.le_of_ble_eq_true rfl) dX1_nearest_148 ?_
            exact z_lret X (zR_l hf Z) dX1_nearest_151
          refine z_if_gt (tgt := 134) X dX1_nearest_114 (by decide) (fun h33 => ?_) (fun h33 => ?_)
          · try simp only [if_pos h33] at hj
            refine z_lload X dX1_nearest_134 1 rfl ?_
            refine z_lconst (v := (1 : Int64)) X dX1_nearest_136 (by decide) ?_
            refine z_ladd X dX1_nearest_137 ?_
            refine z_lstore (lv' := [(11, .long (x30 + (1 : Int64))), (13, .long x32), (10, .int x27), (8, .long x14), (6, .long x28), (4, .int p4), (5, .int p5)]) X dX1_nearest_138 hm (by decide) rfl ?_
            exact hj
          · try simp only [if_neg h33] at hj
            refine z_lload X dX1_nearest_117 0 rfl ?_
            refine z_lload X dX1_nearest_119 3 rfl ?_
            refine z_lcmp X dX1_nearest_121 ?_
            refine z_if_ne (tgt := 140) X dX1_nearest_122 (by decide) (fun h34 => ?_) (fun h34 => ?_)
            · try simp only [if_neg h34] at hj
              refine z_sub [1, 0, 2, 3, 4, 5, 6] rfl ?_
              exact hj
            · try simp only [if_pos h34] at hj
              refine z_lload X dX1_nearest_125 1 rfl ?_
              refine z_lconst (v := (1 : Int64)) X dX1_nearest_127 (by decide) ?_
              refine z_land X dX1_nearest_128 ?_
              refine z_lconst (v := (1 : Int64)) X dX1_nearest_129 (by decide) ?_
              refine z_lcmp X dX1_nearest_130 ?_
              refine z_if_ne (tgt := 140) X dX1_nearest_131 (by decide) (fun h35 => ?_) (fun h35 => ?_)
              · try simp only [if_neg h35] at hj
                refine z_sub [1, 0, 2, 3, 4, 5, 6] rfl ?_
                exact hj
              · try simp only [if_pos h35] at hj
                refine z_lload X dX1_nearest_134 1 rfl ?_
                refine z_lconst (v := (1 : Int64)) X dX1_nearest_136 (by decide) ?_
                refine z_ladd X dX1_nearest_137 ?_
                refine z_lstore (lv' := [(11, .long (x30 + (1 : Int64))), (13, .long x32), (10, .int x27), (8, .long x14), (6, .long x28), (4, .int p4), (5, .int p5)]) X dX1_nearest_138 hm (by decide) rfl ?_
                exact hj
        refine zlp_walk (P := zu2 (fun (x15 : Int32) (x16 : Int64) => zV κ G 56 [(10, .int x15), (8, .long x14), (6, .long x16), (4, .int p4), (5, .int p5)] [] M F)) (fun a38 w21 hf hi19 hx20 => ?_) _ _ hb23
        obtain ⟨x15, x16⟩ := a38
        show zV κ G 56 [(10, .int x15), (8, .long x14), (6, .long x16), (4, .int p4), (5, .int p5)] [] M F
        replace hf : fX1_nearest_L56 x14 x15 x16 = some w21 := hf
        unfold fX1_nearest_L56 at hf
        refine z_lload X dX1_nearest_56 2 rfl ?_
        refine z_lload X dX1_nearest_58 1 rfl ?_
        refine z_lcmp X dX1_nearest_60 ?_
        refine z_if_ge (tgt := 85) X dX1_nearest_61 (by decide) (fun h26 => ?_) (fun h26 => ?_)
        · have hf := zt h26 hf
          have hq := hX17 _ (hx20 _ (Option.some.inj hf).symm)
          exact hq
        · have hf := zf h26 hf
          refine z_iload X dX1_nearest_64 0 rfl ?_
          refine z_bipush (v := (-32 : Int32)) X dX1_nearest_66 (by decide) ?_
          refine z_icmp_le (tgt := 85) X dX1_nearest_68 (by decide) (fun h25 => ?_) (fun h25 => ?_)
          · have hf := zt h25 hf
            have hq := hX17 _ (hx20 _ (Option.some.inj hf).symm)
            exact hq
          · have hf := zf h25 hf
            refine z_lload X dX1_nearest_71 2 rfl ?_
            refine z_ldc2 (v := (2 : Int64)) X dX1_nearest_73 (List.mem_cons_of_mem _ zw_34_10) ?_
            refine z_lmul X dX1_nearest_76 ?_
            refine z_nmL hf (fun x24 hf => ?_)
            refine z_lstore (lv' := [(6, .long x24), (10, .int x15), (8, .long x14), (4, .int p4), (5, .int p5)]) X dX1_nearest_77 hm (by decide) rfl ?_
            refine z_iinc (lv' := [(10, .int (x15 + (-1 : Int32))), (6, .long x24), (8, .long x14), (4, .int p4), (5, .int p5)]) (v := x15 + (-1 : Int32)) X dX1_nearest_79 (j := 1) rfl rfl hm (by decide) rfl ?_
            refine z_goto (tgt := 56) X dX1_nearest_82 (by decide) ?_
            refine z_sub [0, 2, 1, 3, 4] rfl ?_
            have hq := hi19 _ (Option.some.inj hf).symm
            exact hq
      refine zlp_walk (P := zu2 (fun (x1 : Int32) (x2 : Int64) => zV κ G 23 [(10, .int x1), (8, .long x2), (6, .long p0), (4, .int p4), (5, .int p5)] [] M F)) (fun a39 w7 hf hi5 hx6 => ?_) _ _ hb9
      obtain ⟨x1, x2⟩ := a39
      show zV κ G 23 [(10, .int x1), (8, .long x2), (6, .long p0), (4, .int p4), (5, .int p5)] [] M F
      replace hf : fX1_nearest_L23 p0 x1 x2 = some w7 := hf
      unfold fX1_nearest_L23 at hf
      refine z_lload X dX1_nearest_23 2 rfl ?_
      refine z_ldc2 (v := (2 : Int64)) X dX1_nearest_25 (List.mem_cons_of_mem _ zw_34_10) ?_
      refine z_lload X dX1_nearest_28 1 rfl ?_
      refine z_lmul X dX1_nearest_30 ?_
      refine z_lcmp X dX1_nearest_31 ?_
      refine z_if_lt (tgt := 56) X dX1_nearest_32 (by decide) (fun h12 => ?_) (fun h12 => ?_)
      · have hf := zt h12 hf
        have hq := hX3 _ (hx6 _ (Option.some.inj hf).symm)
        exact hq
      · have hf := zf h12 hf
        refine z_iload X dX1_nearest_35 0 rfl ?_
        refine z_bipush (v := (32 : Int32)) X dX1_nearest_37 (by decide) ?_
        refine z_icmp_ge (tgt := 56) X dX1_nearest_39 (by decide) (fun h11 => ?_) (fun h11 => ?_)
        · have hf := zt h11 hf
          have hq := hX3 _ (hx6 _ (Option.some.inj hf).symm)
          exact hq
        · have hf := zf h11 hf
          refine z_lload X dX1_nearest_42 1 rfl ?_
          refine z_ldc2 (v := (2 : Int64)) X dX1_nearest_44 (List.mem_cons_of_mem _ zw_34_10) ?_
          refine z_lmul X dX1_nearest_47 ?_
          refine z_nmL hf (fun x10 hf => ?_)
          refine z_lstore (lv' := [(8, .long x10), (10, .int x1), (6, .long p0), (4, .int p4), (5, .int p5)]) X dX1_nearest_48 hm (by decide) rfl ?_
          refine z_iinc (lv' := [(10, .int (x1 + (1 : Int32))), (8, .long x10), (6, .long p0), (4, .int p4), (5, .int p5)]) (v := x1 + (1 : Int32)) X dX1_nearest_50 (j := 1) rfl rfl hm (by decide) rfl ?_
          refine z_goto (tgt := 23) X dX1_nearest_53 (by decide) ?_
          have hq := hi5 _ (Option.some.inj hf).symm
          exact hq
    · have hf := zf h40 hf
      refine z_lconst (v := (0 : Int64)) X dX1_nearest_12 (by decide) ?_
      exact z_lret X (zR_l hf Z) dX1_nearest_13
set_option maxHeartbeats 4000000 in
set_option maxRecDepth 100000 in
theorem mtX1_nearestDouble (l : Launch) (D : va_G) (G : zG) {p0 : Int32} {p1 : Int32} {M : zMem} {F : Int64} {ro : Int64} (hf : fX1_nearestDouble p0 p1 = some ro) : zCM l yX1_nearestDouble wX1_nearestDouble { frames := 2, cells := 0, slots := 0, locals := 58 } D G [.int p0, .int p1] M F (some (.long ro)) M F := by
  refine zCM.ofV (own := RX1) (cc := cX1_nearestDouble) (maxL := 2) (ret := (some .long)) (lv := [(0, .int p0), (1, .int p1)]) (by decide) rfl rfl (Nat.le_of_ble_eq_true rfl) rfl (fun κ X Z hm hκ1 hκ2 => ?_)
  subst hκ1 hκ2
  unfold fX1_nearestDouble at hf
  refine z_iload_n X dX1_nearestDouble_0 rfl 0 rfl ?_
  refine z_i2l X dX1_nearestDouble_1 ?_
  refine z_iload_n X dX1_nearestDouble_2 rfl 1 rfl ?_
  refine z_i2l X dX1_nearestDouble_3 ?_
  refine z_bipush (v := (52 : Int32)) X dX1_nearestDouble_4 (by decide) ?_
  refine z_sipush (v := (1023 : Int32)) X dX1_nearestDouble_6 (by decide) ?_
  obtain ⟨r2, h1, hf⟩ := zb1_sp hf
  refine gc_X1_9 (st := []) X (mtX1_nearest κ.2.1 κ.2.2.2.2.2.2.2.2.2.2.1 G  h1) rfl rfl (Nat.le_of_ble_eq_true rfl) (Nat.le_of_ble_eq_true rfl) (Nat.le_of_ble_eq_true rfl) dX1_nearestDouble_9 ?_
  exact z_lret X (zR_l hf Z) dX1_nearestDouble_12
set_option maxHeartbeats 4000000 in
set_option maxRecDepth 100000 in
theorem mtX0_meanBits (l : Launch) (D : va_G) (G : zG) {M : zMem} {F : Int64} {ro : Int64} (hf : fX0_meanBits M = some ro) : zCM l yX0_meanBits wX0_meanBits { frames := 3, cells := 0, slots := 0, locals := 79 } D G [.ref (G.1 32)] M F (some (.long ro)) M F := by
  refine zCM.ofV (own := RX0) (cc := cX0_meanBits) (maxL := 1) (ret := (some .long)) (lv := [(0, .ref (G.1 32))]) (by decide) rfl rfl (Nat.le_of_ble_eq_true rfl) rfl (fun κ X Z hm hκ1 hκ2 => ?_)
  subst hκ1 hκ2
  unfold fX0_meanBits at hf
  refine z_aload_n X dX0_meanBits_0 rfl 0 rfl ?_
  refine gf_X0_33 X dX0_meanBits_1 ?_
  refine z_aload_n X dX0_meanBits_4 rfl 0 rfl ?_
  refine gf_X0_27 X dX0_meanBits_5 ?_
  obtain ⟨r2, h1, hf⟩ := zb1_sp hf
  refine gc_X0_71 (st := []) X (mtX1_nearestDouble κ.2.1 κ.2.2.2.2.2.2.2.2.2.2.1 G  h1) rfl rfl (Nat.le_of_ble_eq_true rfl) (Nat.le_of_ble_eq_true rfl) (Nat.le_of_ble_eq_true rfl) dX0_meanBits_8 ?_
  exact z_lret X (zR_l hf Z) dX0_meanBits_11
set_option maxHeartbeats 4000000 in
set_option maxRecDepth 100000 in
theorem mtX1_nearestFloat (l : Launch) (D : va_G) (G : zG) {p0 : Int32} {p1 : Int32} {M : zMem} {F : Int64} {ro : Int32} (hf : fX1_nearestFloat p0 p1 = some ro) : zCM l yX1_nearestFloat wX1_nearestFloat { frames := 2, cells := 0, slots := 0, locals := 58 } D G [.int p0, .int p1] M F (some (.int ro)) M F := by
  refine zCM.ofV (own := RX1) (cc := cX1_nearestFloat) (maxL := 3) (ret := (some .int)) (lv := [(0, .int p0), (1, .int p1)]) (by decide) rfl rfl (Nat.le_of_ble_eq_true rfl) rfl (fun κ X Z hm hκ1 hκ2 => ?_)
  subst hκ1 hκ2
  unfold fX1_nearestFloat at hf
  refine z_iload_n X dX1_nearestFloat_0 rfl 0 rfl ?_
  refine z_i2l X dX1_nearestFloat_1 ?_
  refine z_mabs_long X (List.mem_cons_of_mem _ zw_36_4) (List.mem_cons_of_mem _ zw_36_5) (List.mem_cons_of_mem _ zw_6_4) (List.mem_cons_of_mem _ zw_36_6) (Nat.le_of_ble_eq_true rfl) (Nat.le_of_ble_eq_true rfl) dX1_nearestFloat_2 ?_
  refine z_iload_n X dX1_nearestFloat_5 rfl 1 rfl ?_
  refine z_i2l X dX1_nearestFloat_6 ?_
  refine z_bipush (v := (23 : Int32)) X dX1_nearestFloat_7 (by decide) ?_
  refine z_bipush (v := (127 : Int32)) X dX1_nearestFloat_9 (by decide) ?_
  obtain ⟨r2, h1, hf⟩ := zb1_sp hf
  refine gc_X1_9 (st := []) X (mtX1_nearest κ.2.1 κ.2.2.2.2.2.2.2.2.2.2.1 G  h1) rfl rfl (Nat.le_of_ble_eq_true rfl) (Nat.le_of_ble_eq_true rfl) (Nat.le_of_ble_eq_true rfl) dX1_nearestFloat_11 ?_
  refine z_l2i X dX1_nearestFloat_14 ?_
  refine z_nmI hf (fun x3 hf => ?_)
  refine z_istore_n (lv' := [(2, .int x3), (0, .int p0), (1, .int p1)]) X dX1_nearestFloat_15 rfl hm (by decide) rfl ?_
  refine z_iload_n X dX1_nearestFloat_16 rfl 1 rfl ?_
  have hj : zV κ G 28 [(2, .int x3), (0, .int p0), (1, .int p1)] [.int (if 0 ≤ p0 then x3 else (x3 ||| (-2147483648 : Int32)))] M F := by
    exact z_iret X (zR_i hf Z) dX1_nearestFloat_28
  refine z_if_ge (tgt := 27) X dX1_nearestFloat_17 (by decide) (fun h4 => ?_) (fun h4 => ?_)
  · try simp only [if_pos h4] at hj
    refine z_iload_n X dX1_nearestFloat_27 rfl 0 rfl ?_
    exact hj
  · try simp only [if_neg h4] at hj
    refine z_iload_n X dX1_nearestFloat_20 rfl 0 rfl ?_
    refine z_ldc (v := (-2147483648 : Int32)) X dX1_nearestFloat_21 (List.mem_cons_of_mem _ zw_36_7) ?_
    refine z_ior X dX1_nearestFloat_23 ?_
    refine z_goto (tgt := 28) X dX1_nearestFloat_24 (by decide) ?_
    exact hj
set_option maxHeartbeats 4000000 in
set_option maxRecDepth 100000 in
theorem mtX0_slopeBits (l : Launch) (D : va_G) (G : zG) {M : zMem} {F : Int64} {ro : Int32} (hf : fX0_slopeBits M = some ro) : zCM l yX0_slopeBits wX0_slopeBits { frames := 3, cells := 0, slots := 0, locals := 80 } D G [.ref (G.1 32)] M F (some (.int ro)) M F := by
  refine zCM.ofV (own := RX0) (cc := cX0_slopeBits) (maxL := 6) (ret := (some .int)) (lv := [(0, .ref (G.1 32))]) (by decide) rfl rfl (Nat.le_of_ble_eq_true rfl) rfl (fun κ X Z hm hκ1 hκ2 => ?_)
  subst hκ1 hκ2
  unfold fX0_slopeBits at hf
  refine z_iconst (v := (0 : Int32)) X dX0_slopeBits_0 (by decide) ?_
  refine z_istore_n (lv' := [(1, .int (0 : Int32)), (0, .ref (G.1 32))]) X dX0_slopeBits_1 rfl hm (by decide) rfl ?_
  refine z_iconst (v := (0 : Int32)) X dX0_slopeBits_2 (by decide) ?_
  refine z_istore_n (lv' := [(2, .int (0 : Int32)), (1, .int (0 : Int32)), (0, .ref (G.1 32))]) X dX0_slopeBits_3 rfl hm (by decide) rfl ?_
  refine z_iconst (v := (0 : Int32)) X dX0_slopeBits_4 (by decide) ?_
  refine z_istore_n (lv' := [(3, .int (0 : Int32)), (2, .int (0 : Int32)), (1, .int (0 : Int32)), (0, .ref (G.1 32))]) X dX0_slopeBits_5 rfl hm (by decide) rfl ?_
  refine z_aload_n X dX0_slopeBits_6 rfl 3 rfl ?_
  refine gf_X0_24 X dX0_slopeBits_7 ?_
  refine z_nmI hf (fun x1 hf => ?_)
  refine z_istore (lv' := [(4, .int x1), (3, .int (0 : Int32)), (2, .int (0 : Int32)), (1, .int (0 : Int32)), (0, .ref (G.1 32))]) X dX0_slopeBits_10 hm (by decide) rfl ?_
  obtain ⟨b11, hb12, hf⟩ := zb1_sp hf
  have hX6 : ∀ t, t = b11 → zu4 (fun (x19 : Int32) (x20 : Int32) (x21 : Int32) (x22 : Int32) => zV κ G 57 [(4, .int x19), (3, .int x20), (2, .int x21), (1, .int x22), (0, .ref (G.1 32))] [] M F) t := by
    intro t ht
    subst ht
    obtain ⟨x19, x20, x21, x22⟩ := t
    show zV κ G 57 [(4, .int x19), (3, .int x20), (2, .int x21), (1, .int x22), (0, .ref (G.1 32))] [] M F
    refine z_aload_n X dX0_slopeBits_57 rfl 4 rfl ?_
    refine gf_X0_27 X dX0_slopeBits_58 ?_
    refine z_iload_n X dX0_slopeBits_61 rfl 1 rfl ?_
    refine z_imul X dX0_slopeBits_62 ?_
    refine z_iload_n X dX0_slopeBits_63 rfl 3 rfl ?_
    refine z_aload_n X dX0_slopeBits_64 rfl 4 rfl ?_
    refine gf_X0_33 X dX0_slopeBits_65 ?_
    refine z_imul X dX0_slopeBits_68 ?_
    refine z_isub X dX0_slopeBits_69 ?_
    refine z_nmI hf (fun x23 hf => ?_)
    refine z_istore (lv' := [(4, .int x23), (3, .int x20), (2, .int x21), (1, .int x22), (0, .ref (G.1 32))]) X dX0_slopeBits_70 hm (by decide) rfl ?_
    refine z_aload_n X dX0_slopeBits_72 rfl 4 rfl ?_
    refine gf_X0_27 X dX0_slopeBits_73 ?_
    refine z_iload_n X dX0_slopeBits_76 rfl 2 rfl ?_
    refine z_imul X dX0_slopeBits_77 ?_
    refine z_iload_n X dX0_slopeBits_78 rfl 3 rfl ?_
    refine z_iload_n X dX0_slopeBits_79 rfl 3 rfl ?_
    refine z_imul X dX0_slopeBits_80 ?_
    refine z_isub X dX0_slopeBits_81 ?_
    refine z_nmI hf (fun x24 hf => ?_)
    refine z_istore (lv' := [(5, .int x24), (4, .int x23), (3, .int x20), (2, .int x21), (1, .int x22), (0, .ref (G.1 32))]) X dX0_slopeBits_82 hm (by decide) rfl ?_
    refine z_iload X dX0_slopeBits_84 1 rfl ?_
    refine z_iload X dX0_slopeBits_86 0 rfl ?_
    obtain ⟨r26, h25, hf⟩ := zb1_sp hf
    refine gc_X0_77 (st := []) X (mtX1_nearestFloat κ.2.1 κ.2.2.2.2.2.2.2.2.2.2.1 G  h25) rfl rfl (Nat.le_of_ble_eq_true rfl) (Nat.le_of_ble_eq_true rfl) (Nat.le_of_ble_eq_true rfl) dX0_slopeBits_88 ?_
    exact z_iret X (zR_i hf Z) dX0_slopeBits_91
  refine zlp_walk (P := zu4 (fun (x2 : Int32) (x3 : Int32) (x4 : Int32) (x5 : Int32) => zV κ G 12 [(4, .int x2), (3, .int x3), (2, .int x4), (1, .int x5), (0, .ref (G.1 32))] [] M F)) (fun a27 w10 hf hi8 hx9 => ?_) _ _ hb12
  obtain ⟨x2, x3, x4, x5⟩ := a27
  show zV κ G 12 [(4, .int x2), (3, .int x3), (2, .int x4), (1, .int x5), (0, .ref (G.1 32))] [] M F
  replace hf : fX0_slopeBits_L12 M x2 x3 x4 x5 = some w10 := hf
  unfold fX0_slopeBits_L12 at hf
  refine z_iload X dX0_slopeBits_12 0 rfl ?_
  refine z_aload_n X dX0_slopeBits_14 rfl 4 rfl ?_
  refine gf_X0_24 X dX0_slopeBits_15 ?_
  refine z_aload_n X dX0_slopeBits_18 rfl 4 rfl ?_
  refine gf_X0_27 X dX0_slopeBits_19 ?_
  refine z_iadd X dX0_slopeBits_22 ?_
  refine z_icmp_ge (tgt := 57) X dX0_slopeBits_23 (by decide) (fun h18 => ?_) (fun h18 => ?_)
  · have hf := zt h18 hf
    have hq := hX6 _ (hx9 _ (Option.some.inj hf).symm)
    exact hq
  · have hf := zf h18 hf
    refine z_iload_n X dX0_slopeBits_26 rfl 3 rfl ?_
    refine z_iload X dX0_slopeBits_27 0 rfl ?_
    refine z_iadd X dX0_slopeBits_29 ?_
    refine z_nmI hf (fun x13 hf => ?_)
    refine z_istore_n (lv' := [(1, .int x13), (4, .int x2), (3, .int x3), (2, .int x4), (0, .ref (G.1 32))]) X dX0_slopeBits_30 rfl hm (by decide) rfl ?_
    refine z_iload_n X dX0_slopeBits_31 rfl 3 rfl ?_
    refine z_iload X dX0_slopeBits_32 1 rfl ?_
    refine z_iload X dX0_slopeBits_34 1 rfl ?_
    refine z_imul X dX0_slopeBits_36 ?_
    refine z_iadd X dX0_slopeBits_37 ?_
    refine z_nmI hf (fun x14 hf => ?_)
    refine z_istore_n (lv' := [(2, .int x14), (1, .int x13), (4, .int x2), (3, .int x3), (0, .ref (G.1 32))]) X dX0_slopeBits_38 rfl hm (by decide) rfl ?_
    refine z_iload_n X dX0_slopeBits_39 rfl 3 rfl ?_
    refine z_iload X dX0_slopeBits_40 2 rfl ?_
    refine z_aload_n X dX0_slopeBits_42 rfl 4 rfl ?_
    refine z_iload X dX0_slopeBits_43 2 rfl ?_
    obtain ⟨r16, h15, hf⟩ := zb1_sp hf
    refine gc_X0_65 (st := [.int x2, .int x3]) X (mtX0_footRow κ.2.1 κ.2.2.2.2.2.2.2.2.2.2.1 G  h15) rfl rfl (Nat.le_of_ble_eq_true rfl) (Nat.le_of_ble_eq_true rfl) (Nat.le_of_ble_eq_true rfl) dX0_slopeBits_45 ?_
    refine z_imul X dX0_slopeBits_48 ?_
    refine z_iadd X dX0_slopeBits_49 ?_
    refine z_nmI hf (fun x17 hf => ?_)
    refine z_istore_n (lv' := [(3, .int x17), (2, .int x14), (1, .int x13), (4, .int x2), (0, .ref (G.1 32))]) X dX0_slopeBits_50 rfl hm (by decide) rfl ?_
    refine z_iinc (lv' := [(4, .int (x2 + (1 : Int32))), (3, .int x17), (2, .int x14), (1, .int x13), (0, .ref (G.1 32))]) (v := x2 + (1 : Int32)) X dX0_slopeBits_51 (j := 3) rfl rfl hm (by decide) rfl ?_
    refine z_goto (tgt := 12) X dX0_slopeBits_54 (by decide) ?_
    have hq := hi8 _ (Option.some.inj hf).symm
    exact hq
set_option maxHeartbeats 4000000 in
set_option maxRecDepth 100000 in
theorem mtX1_doubleAboveWhole (l : Launch) (D : va_G) (G : zG) {p0 : Int64} {M : zMem} {F : Int64} {ro : Int64} (hf : fX1_doubleAboveWhole p0 = some ro) : zCM l yX1_doubleAboveWhole wX1_doubleAboveWhole { frames := 1, cells := 0, slots := 0, locals := 24 } D G [.long p0] M F (some (.long ro)) M F := by
  refine zCM.ofV (own := RX1) (cc := cX1_doubleAboveWhole) (maxL := 8) (ret := (some .long)) (lv := [(0, .long p0)]) (by decide) rfl rfl (Nat.le_of_ble_eq_true rfl) rfl (fun κ X Z hm hκ1 hκ2 => ?_)
  subst hκ1 hκ2
  unfold fX1_doubleAboveWhole at hf
  refine z_lload_n X dX1_doubleAboveWhole_0 rfl 0 rfl ?_
  refine z_bipush (v := (52 : Int32)) X dX1_doubleAboveWhole_1 (by decide) ?_
  refine z_lushr X dX1_doubleAboveWhole_3 ?_
  refine z_l2i X dX1_doubleAboveWhole_4 ?_
  refine z_sipush (v := (1023 : Int32)) X dX1_doubleAboveWhole_5 (by decide) ?_
  refine z_isub X dX1_doubleAboveWhole_8 ?_
  refine z_nmI hf (fun x1 hf => ?_)
  refine z_istore_n (lv' := [(2, .int x1), (0, .long p0)]) X dX1_doubleAboveWhole_9 rfl hm (by decide) rfl ?_
  refine z_iload_n X dX1_doubleAboveWhole_10 rfl 0 rfl ?_
  refine z_if_ge (tgt := 16) X dX1_doubleAboveWhole_11 (by decide) (fun h24 => ?_) (fun h24 => ?_)
  · have hf := zt h24 hf
    refine z_iload_n X dX1_doubleAboveWhole_16 rfl 0 rfl ?_
    refine z_bipush (v := (52 : Int32)) X dX1_doubleAboveWhole_17 (by decide) ?_
    have hj : zV κ G 36 [(2, .int x1), (0, .long p0)] [.long (if (52 : Int32) ≤ x1 then (0 : Int64) else (p0 &&& (((1 : Int64) <<< ((((52 : Int32) - x1)).toInt64 &&& 63)) - (1 : Int64))))] M F := by
      refine z_nmL hf (fun x3 hf => ?_)
      refine z_lstore_n (lv' := [(3, .long x3), (2, .int x1), (0, .long p0)]) X dX1_doubleAboveWhole_36 rfl hm (by decide) rfl ?_
      refine z_lload_n X dX1_doubleAboveWhole_37 rfl 0 rfl ?_
      refine z_lconst (v := (0 : Int64)) X dX1_doubleAboveWhole_38 (by decide) ?_
      refine z_lcmp X dX1_doubleAboveWhole_39 ?_
      refine z_if_ne (tgt := 45) X dX1_doubleAboveWhole_40 (by decide) (fun h23 => ?_) (fun h23 => ?_)
      · have hf := zf h23 hf
        refine z_ldc2 (v := (4503599627370496 : Int64)) X dX1_doubleAboveWhole_45 (List.mem_cons_of_mem _ zw_35_11) ?_
        refine z_lstore (lv' := [(5, .long (4503599627370496 : Int64)), (3, .long x3), (2, .int x1), (0, .long p0)]) X dX1_doubleAboveWhole_48 hm (by decide) rfl ?_
        refine z_iconst (v := (0 : Int32)) X dX1_doubleAboveWhole_50 (by decide) ?_
        refine z_istore (lv' := [(7, .int (0 : Int32)), (5, .long (4503599627370496 : Int64)), (3, .long x3), (2, .int x1), (0, .long p0)]) X dX1_doubleAboveWhole_51 hm (by decide) rfl ?_
        refine z_sub [0, 1, 2, 3] rfl ?_
        obtain ⟨b12, hb13, hf⟩ := zb1_sp hf
        have hX7 : ∀ t, t = b12 → zu3 (fun (x17 : Int32) (x18 : Int64) (x19 : Int32) => zV κ G 80 [(7, .int x17), (5, .long (4503599627370496 : Int64)), (3, .long x18), (2, .int x19)] [] M F) t := by
          intro t ht
          subst ht
          obtain ⟨x17, x18, x19⟩ := t
          show zV κ G 80 [(7, .int x17), (5, .long (4503599627370496 : Int64)), (3, .long x18), (2, .int x19)] [] M F
          refine z_iload_n X dX1_doubleAboveWhole_80 rfl 3 rfl ?_
          refine z_lload_n X dX1_doubleAboveWhole_81 rfl 2 rfl ?_
          refine z_bipush (v := (52 : Int32)) X dX1_doubleAboveWhole_82 (by decide) ?_
          refine z_sipush (v := (1023 : Int32)) X dX1_doubleAboveWhole_84 (by decide) ?_
          obtain ⟨r21, h20, hf⟩ := zb1_sp hf
          refine gc_X1_22 (st := []) X (mtX1_packed κ.2.1 κ.2.2.2.2.2.2.2.2.2.2.1 G  h20) rfl rfl (Nat.le_of_ble_eq_true rfl) (Nat.le_of_ble_eq_true rfl) (Nat.le_of_ble_eq_true rfl) dX1_doubleAboveWhole_87 ?_
          exact z_lret X (zR_l hf Z) dX1_doubleAboveWhole_90
        refine zlp_walk (P := zu3 (fun (x4 : Int32) (x5 : Int64) (x6 : Int32) => zV κ G 53 [(7, .int x4), (5, .long (4503599627370496 : Int64)), (3, .long x5), (2, .int x6)] [] M F)) (fun a22 w11 hf hi9 hx10 => ?_) _ _ hb13
        obtain ⟨x4, x5, x6⟩ := a22
        show zV κ G 53 [(7, .int x4), (5, .long (4503599627370496 : Int64)), (3, .long x5), (2, .int x6)] [] M F
        replace hf : fX1_doubleAboveWhole_L53 x4 x5 x6 = some w11 := hf
        unfold fX1_doubleAboveWhole_L53 at hf
        refine z_iload X dX1_doubleAboveWhole_53 0 rfl ?_
        refine z_bipush (v := (52 : Int32)) X dX1_doubleAboveWhole_55 (by decide) ?_
        refine z_icmp_gt (tgt := 80) X dX1_doubleAboveWhole_57 (by decide) (fun h16 => ?_) (fun h16 => ?_)
        · have hf := zt h16 hf
          have hq := hX7 _ (hx10 _ (Option.some.inj hf).symm)
          exact hq
        · have hf := zf h16 hf
          refine z_lload_n X dX1_doubleAboveWhole_60 rfl 2 rfl ?_
          refine z_lload X dX1_doubleAboveWhole_61 1 rfl ?_
          refine z_lcmp X dX1_doubleAboveWhole_63 ?_
          refine z_if_ge (tgt := 80) X dX1_doubleAboveWhole_64 (by decide) (fun h15 => ?_) (fun h15 => ?_)
          · have hf := zt h15 hf
            have hq := hX7 _ (hx10 _ (Option.some.inj hf).symm)
            exact hq
          · have hf := zf h15 hf
            refine z_lload_n X dX1_doubleAboveWhole_67 rfl 2 rfl ?_
            refine z_iconst (v := (1 : Int32)) X dX1_doubleAboveWhole_68 (by decide) ?_
            refine z_lshl X dX1_doubleAboveWhole_69 ?_
            refine z_nmL hf (fun x14 hf => ?_)
            refine z_lstore_n (lv' := [(3, .long x14), (7, .int x4), (5, .long (4503599627370496 : Int64)), (2, .int x6)]) X dX1_doubleAboveWhole_70 rfl hm (by decide) rfl ?_
            refine z_iinc (lv' := [(2, .int (x6 + (-1 : Int32))), (3, .long x14), (7, .int x4), (5, .long (4503599627370496 : Int64))]) (v := x6 + (-1 : Int32)) X dX1_doubleAboveWhole_71 (j := 3) rfl rfl hm (by decide) rfl ?_
            refine z_iinc (lv' := [(7, .int (x4 + (1 : Int32))), (2, .int (x6 + (-1 : Int32))), (3, .long x14), (5, .long (4503599627370496 : Int64))]) (v := x4 + (1 : Int32)) X dX1_doubleAboveWhole_74 (j := 2) rfl rfl hm (by decide) rfl ?_
            refine z_goto (tgt := 53) X dX1_doubleAboveWhole_77 (by decide) ?_
            refine z_sub [0, 3, 2, 1] rfl ?_
            have hq := hi9 _ (Option.some.inj hf).symm
            exact hq
      · have hf := zt h23 hf
        refine z_lconst (v := (0 : Int64)) X dX1_doubleAboveWhole_43 (by decide) ?_
        exact z_lret X (zR_l hf Z) dX1_doubleAboveWhole_44
    refine z_icmp_ge (tgt := 35) X dX1_doubleAboveWhole_19 (by decide) (fun h2 => ?_) (fun h2 => ?_)
    · try simp only [if_pos h2] at hj
      refine z_lconst (v := (0 : Int64)) X dX1_doubleAboveWhole_35 (by decide) ?_
      exact hj
    · try simp only [if_neg h2] at hj
      refine z_lload_n X dX1_doubleAboveWhole_22 rfl 1 rfl ?_
      refine z_lconst (v := (1 : Int64)) X dX1_doubleAboveWhole_23 (by decide) ?_
      refine z_bipush (v := (52 : Int32)) X dX1_doubleAboveWhole_24 (by decide) ?_
      refine z_iload_n X dX1_doubleAboveWhole_26 rfl 0 rfl ?_
      refine z_isub X dX1_doubleAboveWhole_27 ?_
      refine z_lshl X dX1_doubleAboveWhole_28 ?_
      refine z_lconst (v := (1 : Int64)) X dX1_doubleAboveWhole_29 (by decide) ?_
      refine z_lsub X dX1_doubleAboveWhole_30 ?_
      refine z_land X dX1_doubleAboveWhole_31 ?_
      refine z_goto (tgt := 36) X dX1_doubleAboveWhole_32 (by decide) ?_
      exact hj
  · have hf := zf h24 hf
    refine z_lload_n X dX1_doubleAboveWhole_14 rfl 1 rfl ?_
    exact z_lret X (zR_l hf Z) dX1_doubleAboveWhole_15
set_option maxHeartbeats 4000000 in
set_option maxRecDepth 100000 in
theorem mtX2_isNothing (l : Launch) (D : va_G) (G : zG) {j : Nat} {M : zMem} {F : Int64} {ro : Int32} (jh : j < 4) (hf : fX2_isNothing j M = some ro) : zCM l yX2_isNothing wX2_isNothing { frames := 0, cells := 0, slots := 0, locals := 0 } D G [.ref (G.1 (14 + j))] M F (some (.int ro)) M F := by
  refine zCM.ofV (own := RX2) (cc := cX2_isNothing) (maxL := 1) (ret := (some .boolean)) (lv := [(0, .ref (G.1 (14 + j)))]) (by decide) rfl rfl (Nat.le_of_ble_eq_true rfl) rfl (fun κ X Z hm hκ1 hκ2 => ?_)
  subst hκ1 hκ2
  unfold fX2_isNothing at hf
  refine z_aload_n X dX2_isNothing_0 rfl 0 rfl ?_
  refine gf_X2_15 X jh dX2_isNothing_1 ?_
  refine z_iconst (v := (-1 : Int32)) X dX2_isNothing_4 (by decide) ?_
  have hj : zV κ G 13 [(0, .ref (G.1 (14 + j)))] [.int (if (M (14 + j) 1) = (-1 : Int32) then (1 : Int32) else (0 : Int32))] M F := by
    exact z_zret X (z01_ite (Or.inr rfl) (Or.inl rfl)) (zR_i hf Z) dX2_isNothing_13
  refine z_icmp_ne (tgt := 12) X dX2_isNothing_5 (by decide) (fun h1 => ?_) (fun h1 => ?_)
  · try simp only [if_neg h1] at hj
    refine z_iconst (v := (0 : Int32)) X dX2_isNothing_12 (by decide) ?_
    exact hj
  · try simp only [if_pos h1] at hj
    refine z_iconst (v := (1 : Int32)) X dX2_isNothing_8 (by decide) ?_
    refine z_goto (tgt := 13) X dX2_isNothing_9 (by decide) ?_
    exact hj
set_option maxHeartbeats 4000000 in
set_option maxRecDepth 100000 in
theorem mtX2_drop (l : Launch) (D : va_G) (G : zG) {j : Nat} {M : zMem} {F : Int64} {Mo : zMem} (jh : j < 4) (hf : fX2_drop j M = some Mo) : zCM l yX2_drop wX2_drop { frames := 0, cells := 0, slots := 0, locals := 0 } D G [.ref (G.1 (14 + j))] M F none Mo F := by
  refine zCM.ofV (own := RX2) (cc := cX2_drop) (maxL := 1) (ret := none) (lv := [(0, .ref (G.1 (14 + j)))]) (by decide) rfl rfl (Nat.le_of_ble_eq_true rfl) rfl (fun κ X Z hm hκ1 hκ2 => ?_)
  subst hκ1 hκ2
  unfold fX2_drop at hf
  refine z_aload_n X dX2_drop_0 rfl 0 rfl ?_
  refine z_iconst (v := (-1 : Int32)) X dX2_drop_1 (by decide) ?_
  refine pf_X2_15 X jh dX2_drop_2 ?_
  refine z_nmM hf (fun M1 hf => ?_)
  refine z_aload_n X dX2_drop_5 rfl 0 rfl ?_
  refine z_iconst (v := (0 : Int32)) X dX2_drop_6 (by decide) ?_
  refine pf_X2_19 X jh dX2_drop_7 ?_
  refine z_nmM hf (fun M2 hf => ?_)
  exact z_vret X (zR_M hf Z) dX2_drop_10
set_option maxHeartbeats 4000000 in
set_option maxRecDepth 100000 in
theorem mtJ7_fill_53178 (l : Launch) (D : va_G) (G : zG) {c0 : Nat} {c0n : Nat} {p1 : Int32} {M : zMem} {F : Int64} {Mo : zMem} (c0h : c0 < 77) (c0l : zlay c0 = .inr (.inl (0, c0n))) (hf : fJ7_fill_53178 c0 c0n p1 M = some Mo) : zCM l yJ7_fill_53178 wJ7_fill_53178 { frames := 0, cells := 0, slots := 0, locals := 0 } D G [.ref (G.1 c0), .int p1] M F none Mo F := by
  refine zCM.ofV (own := RJ7) (cc := cJ7_fill_53178) (maxL := 4) (ret := none) (lv := [(0, .ref (G.1 c0)), (1, .int p1)]) (by decide) rfl rfl (Nat.le_of_ble_eq_true rfl) rfl (fun κ X Z hm hκ1 hκ2 => ?_)
  subst hκ1 hκ2
  unfold fJ7_fill_53178 at hf
  refine z_iconst (v := (0 : Int32)) X dJ7_fill_53178_0 (by decide) ?_
  refine z_istore_n (lv' := [(2, .int (0 : Int32)), (0, .ref (G.1 c0)), (1, .int p1)]) X dJ7_fill_53178_1 rfl hm (by decide) rfl ?_
  refine z_aload_n X dJ7_fill_53178_2 rfl 1 rfl ?_
  refine z_alen (v := Int32.ofNat c0n) X c0h c0l ⟨_, rfl⟩ rfl dJ7_fill_53178_3 ?_
  refine z_nmI hf (fun x1 hf => ?_)
  refine z_istore_n (lv' := [(3, .int x1), (2, .int (0 : Int32)), (0, .ref (G.1 c0)), (1, .int p1)]) X dJ7_fill_53178_4 rfl hm (by decide) rfl ?_
  obtain ⟨b9, hb10, hf⟩ := zb1_sp hf
  have hX4 : ∀ t, t = b9 → zu2 (fun (x14 : Int32) (M15 : zMem) => zV κ G 20 [(3, .int x1), (2, .int x14), (0, .ref (G.1 c0)), (1, .int p1)] [] M15 F) t := by
    intro t ht
    subst ht
    obtain ⟨x14, M15⟩ := t
    show zV κ G 20 [(3, .int x1), (2, .int x14), (0, .ref (G.1 c0)), (1, .int p1)] [] M15 F
    exact z_vret X (zR_M hf Z) dJ7_fill_53178_20
  refine zlp_walk (P := zu2 (fun (x2 : Int32) (M3 : zMem) => zV κ G 5 [(3, .int x1), (2, .int x2), (0, .ref (G.1 c0)), (1, .int p1)] [] M3 F)) (fun a16 w8 hf hi6 hx7 => ?_) _ _ hb10
  obtain ⟨x2, M3⟩ := a16
  show zV κ G 5 [(3, .int x1), (2, .int x2), (0, .ref (G.1 c0)), (1, .int p1)] [] M3 F
  replace hf : fJ7_fill_53178_L5 c0 c0n p1 x1 x2 M3 = some w8 := hf
  unfold fJ7_fill_53178_L5 at hf
  refine z_iload_n X dJ7_fill_53178_5 rfl 1 rfl ?_
  refine z_iload_n X dJ7_fill_53178_6 rfl 0 rfl ?_
  refine z_icmp_ge (tgt := 20) X dJ7_fill_53178_7 (by decide) (fun h13 => ?_) (fun h13 => ?_)
  · have hf := zt h13 hf
    have hq := hX4 _ (hx7 _ (Option.some.inj hf).symm)
    exact hq
  · have hf := zf h13 hf
    refine z_aload_n X dJ7_fill_53178_10 rfl 2 rfl ?_
    refine z_iload_n X dJ7_fill_53178_11 rfl 1 rfl ?_
    refine z_iload_n X dJ7_fill_53178_12 rfl 3 rfl ?_
    obtain ⟨h11, hf⟩ := zc_sp hf
    refine z_iast X c0h c0l (zin_sp h11) dJ7_fill_53178_13 ?_
    refine z_nmM hf (fun M12 hf => ?_)
    refine z_iinc (lv' := [(2, .int (x2 + (1 : Int32))), (3, .int x1), (0, .ref (G.1 c0)), (1, .int p1)]) (v := x2 + (1 : Int32)) X dJ7_fill_53178_14 (j := 1) rfl rfl hm (by decide) rfl ?_
    refine z_goto (tgt := 5) X dJ7_fill_53178_17 (by decide) ?_
    refine z_sub [1, 0, 2, 3] rfl ?_
    have hq := hi6 _ (Option.some.inj hf).symm
    exact hq
set_option maxHeartbeats 4000000 in
set_option maxRecDepth 100000 in
theorem mtX2_renew (l : Launch) (D : va_G) (G : zG) {j : Nat} {p1 : Int32} {p2 : Int32} {M : zMem} {F : Int64} {Mo : zMem} (jh : j < 4) (hf : fX2_renew j p1 p2 M = some Mo) : zCM l yX2_renew wX2_renew { frames := 1, cells := 0, slots := 0, locals := 24 } D G [.ref (G.1 (14 + j)), .int p1, .int p2] M F none Mo F := by
  refine zCM.ofV (own := RX2) (cc := cX2_renew) (maxL := 3) (ret := none) (lv := [(0, .ref (G.1 (14 + j))), (1, .int p1), (2, .int p2)]) (by decide) rfl rfl (Nat.le_of_ble_eq_true rfl) rfl (fun κ X Z hm hκ1 hκ2 => ?_)
  subst hκ1 hκ2
  unfold fX2_renew at hf
  refine z_aload_n X dX2_renew_0 rfl 0 rfl ?_
  refine z_iload_n X dX2_renew_1 rfl 1 rfl ?_
  refine pf_X2_15 X jh dX2_renew_2 ?_
  refine z_nmM hf (fun M1 hf => ?_)
  refine z_aload_n X dX2_renew_5 rfl 0 rfl ?_
  refine z_iconst (v := (0 : Int32)) X dX2_renew_6 (by decide) ?_
  refine z_iload_n X dX2_renew_7 rfl 2 rfl ?_
  refine z_bipush (v := (32 : Int32)) X dX2_renew_8 (by decide) ?_
  refine z_mmin X (List.mem_cons_of_mem _ zw_11_19) (List.mem_cons_of_mem _ zw_6_3) (List.mem_cons_of_mem _ zw_6_4) (List.mem_cons_of_mem _ zw_6_5) (Nat.le_of_ble_eq_true rfl) (Nat.le_of_ble_eq_true rfl) dX2_renew_10 ?_
  refine z_mmax X (List.mem_cons_of_mem _ zw_11_20) (List.mem_cons_of_mem _ zw_6_7) (List.mem_cons_of_mem _ zw_6_4) (List.mem_cons_of_mem _ zw_6_8) (Nat.le_of_ble_eq_true rfl) (Nat.le_of_ble_eq_true rfl) dX2_renew_13 ?_
  refine pf_X2_19 X jh dX2_renew_16 ?_
  refine z_nmM hf (fun M2 hf => ?_)
  refine z_aload_n X dX2_renew_19 rfl 0 rfl ?_
  refine gf_X2_9 X jh dX2_renew_20 ?_
  refine z_iconst (v := (0 : Int32)) X dX2_renew_23 (by decide) ?_
  obtain ⟨M4, h3, hf⟩ := zb1_sp hf
  refine gc_X2_31 (st := []) X (mtJ7_fill_53178 κ.2.1 κ.2.2.2.2.2.2.2.2.2.2.1 G (zc_places jh) (zl_places jh) h3) rfl rfl (Nat.le_of_ble_eq_true rfl) (Nat.le_of_ble_eq_true rfl) (Nat.le_of_ble_eq_true rfl) dX2_renew_24 ?_
  exact z_vret X (zR_M hf Z) dX2_renew_27
set_option maxHeartbeats 4000000 in
set_option maxRecDepth 100000 in
theorem mtX2_hasPlace (l : Launch) (D : va_G) (G : zG) {j : Nat} {p1 : Int32} {M : zMem} {F : Int64} {ro : Int32} (jh : j < 4) (hf : fX2_hasPlace j p1 M = some ro) : zCM l yX2_hasPlace wX2_hasPlace { frames := 0, cells := 0, slots := 0, locals := 0 } D G [.ref (G.1 (14 + j)), .int p1] M F (some (.int ro)) M F := by
  refine zCM.ofV (own := RX2) (cc := cX2_hasPlace) (maxL := 2) (ret := (some .boolean)) (lv := [(0, .ref (G.1 (14 + j))), (1, .int p1)]) (by decide) rfl rfl (Nat.le_of_ble_eq_true rfl) rfl (fun κ X Z hm hκ1 hκ2 => ?_)
  subst hκ1 hκ2
  unfold fX2_hasPlace at hf
  refine z_iload_n X dX2_hasPlace_0 rfl 1 rfl ?_
  have hj : zV κ G 17 [(0, .ref (G.1 (14 + j))), (1, .int p1)] [.int (if p1 < 0 then (0 : Int32) else (if (M (14 + j) 2) ≤ p1 then (0 : Int32) else (1 : Int32)))] M F := by
    exact z_zret X (z01_ite (Or.inl rfl) (z01_ite (Or.inl rfl) (Or.inr rfl))) (zR_i hf Z) dX2_hasPlace_17
  refine z_if_lt (tgt := 16) X dX2_hasPlace_1 (by decide) (fun h1 => ?_) (fun h1 => ?_)
  · try simp only [if_pos h1] at hj
    refine z_iconst (v := (0 : Int32)) X dX2_hasPlace_16 (by decide) ?_
    exact hj
  · try simp only [if_neg h1] at hj
    refine z_iload_n X dX2_hasPlace_4 rfl 1 rfl ?_
    refine z_aload_n X dX2_hasPlace_5 rfl 0 rfl ?_
    refine gf_X2_19 X jh dX2_hasPlace_6 ?_
    refine z_icmp_ge (tgt := 16) X dX2_hasPlace_9 (by decide) (fun h2 => ?_) (fun h2 => ?_)
    · try simp only [if_pos h2] at hj
      refine z_iconst (v := (0 : Int32)) X dX2_hasPlace_16 (by decide) ?_
      exact hj
    · try simp only [if_neg h2] at hj
      refine z_iconst (v := (1 : Int32)) X dX2_hasPlace_12 (by decide) ?_
      refine z_goto (tgt := 17) X dX2_hasPlace_13 (by decide) ?_
      exact hj
set_option maxHeartbeats 4000000 in
set_option maxRecDepth 100000 in
theorem mtX2_number (l : Launch) (D : va_G) (G : zG) {j : Nat} {p1 : Int32} {M : zMem} {F : Int64} {ro : Int32} (jh : j < 4) (hf : fX2_number j p1 M = some ro) : zCM l yX2_number wX2_number { frames := 1, cells := 0, slots := 0, locals := 21 } D G [.ref (G.1 (14 + j)), .int p1] M F (some (.int ro)) M F := by
  refine zCM.ofV (own := RX2) (cc := cX2_number) (maxL := 2) (ret := (some .int)) (lv := [(0, .ref (G.1 (14 + j))), (1, .int p1)]) (by decide) rfl rfl (Nat.le_of_ble_eq_true rfl) rfl (fun κ X Z hm hκ1 hκ2 => ?_)
  subst hκ1 hκ2
  unfold fX2_number at hf
  refine z_aload_n X dX2_number_0 rfl 0 rfl ?_
  refine z_iload_n X dX2_number_1 rfl 1 rfl ?_
  obtain ⟨r2, h1, hf⟩ := zb1_sp hf
  refine gc_X2_37 (st := []) X jh (mtX2_hasPlace κ.2.1 κ.2.2.2.2.2.2.2.2.2.2.1 G jh h1) rfl rfl (Nat.le_of_ble_eq_true rfl) (Nat.le_of_ble_eq_true rfl) (Nat.le_of_ble_eq_true rfl) dX2_number_2 ?_
  obtain ⟨k4, k4e, hf⟩ := zj_sp hf
  have hj5 : ∀ (x3 : Int32), k4 x3 = some ro → zV κ G 18 [(0, .ref (G.1 (14 + j))), (1, .int p1)] [.int x3] M F := by
    intro x3 hf
    rw [k4e] at hf
    exact z_iret X (zR_i hf Z) dX2_number_18
  clear k4e
  refine z_if_eq (tgt := 17) X dX2_number_5 (by decide) (fun h7 => ?_) (fun h7 => ?_)
  · have hf := zt h7 hf
    refine z_iconst (v := (0 : Int32)) X dX2_number_17 (by decide) ?_
    exact hj5 (0 : Int32) hf
  · have hf := zf h7 hf
    refine z_aload_n X dX2_number_8 rfl 0 rfl ?_
    refine gf_X2_9 X jh dX2_number_9 ?_
    refine z_iload_n X dX2_number_12 rfl 1 rfl ?_
    obtain ⟨h6, hf⟩ := zc_sp hf
    refine z_iald X (zc_places jh) (zl_places jh) (zin_sp h6) dX2_number_13 ?_
    refine z_goto (tgt := 18) X dX2_number_14 (by decide) ?_
    exact hj5 (M (18 + j) p1.toNatClampNeg) hf
set_option maxHeartbeats 4000000 in
set_option maxRecDepth 100000 in
theorem mtX2_cut (l : Launch) (D : va_G) (G : zG) {j : Nat} {p1 : Int32} {M : zMem} {F : Int64} {ro : Int32} (jh : j < 4) (hf : fX2_cut j p1 M = some ro) : zCM l yX2_cut wX2_cut { frames := 0, cells := 0, slots := 0, locals := 0 } D G [.ref (G.1 (14 + j)), .int p1] M F (some (.int ro)) M F := by
  refine zCM.ofV (own := RX2) (cc := cX2_cut) (maxL := 2) (ret := (some .int)) (lv := [(0, .ref (G.1 (14 + j))), (1, .int p1)]) (by decide) rfl rfl (Nat.le_of_ble_eq_true rfl) rfl (fun κ X Z hm hκ1 hκ2 => ?_)
  subst hκ1 hκ2
  unfold fX2_cut at hf
  refine z_aload_n X dX2_cut_0 rfl 0 rfl ?_
  refine gf_X2_15 X jh dX2_cut_1 ?_
  by_cases h1 : (M (14 + j) 1) = (0 : Int32)
  · have hf := zt h1 hf
    refine z_tableIn (tgt := 32) X dX2_cut_4 (by rw [h1]; decide) (by rw [h1]; decide) (by rw [h1]; rfl) (by decide) ?_
    refine z_iload_n X dX2_cut_32 rfl 1 rfl ?_
    refine z_i2b X dX2_cut_33 ?_
    exact z_iret X (zR_i hf Z) dX2_cut_34
  · have hf := zf h1 hf
    by_cases h2 : (M (14 + j) 1) = (1 : Int32)
    · have hf := zt h2 hf
      refine z_tableIn (tgt := 35) X dX2_cut_4 (by rw [h2]; decide) (by rw [h2]; decide) (by rw [h2]; rfl) (by decide) ?_
      refine z_iload_n X dX2_cut_35 rfl 1 rfl ?_
      refine z_i2c X dX2_cut_36 ?_
      exact z_iret X (zR_i hf Z) dX2_cut_37
    · have hf := zf h2 hf
      by_cases h3 : (M (14 + j) 1) = (2 : Int32)
      · have hf := zt h3 hf
        refine z_tableIn (tgt := 38) X dX2_cut_4 (by rw [h3]; decide) (by rw [h3]; decide) (by rw [h3]; rfl) (by decide) ?_
        refine z_iload_n X dX2_cut_38 rfl 1 rfl ?_
        refine z_i2s X dX2_cut_39 ?_
        exact z_iret X (zR_i hf Z) dX2_cut_40
      · have hf := zf h3 hf
        refine z_tableOut (tgt := 41) X dX2_cut_4 (by have q0 := lv_neT h1 (a := 0) rfl; have q1 := lv_neT h2 (a := 1) rfl; have q2 := lv_neT h3 (a := 2) rfl; omega) (by decide) ?_
        refine z_iload_n X dX2_cut_41 rfl 1 rfl ?_
        have hj : zV κ G 50 [(0, .ref (G.1 (14 + j))), (1, .int p1)] [.int (if p1 = 0 then (0 : Int32) else (1 : Int32))] M F := by
          exact z_iret X (zR_i hf Z) dX2_cut_50
        refine z_if_eq (tgt := 49) X dX2_cut_42 (by decide) (fun h4 => ?_) (fun h4 => ?_)
        · try simp only [if_pos h4] at hj
          refine z_iconst (v := (0 : Int32)) X dX2_cut_49 (by decide) ?_
          exact hj
        · try simp only [if_neg h4] at hj
          refine z_iconst (v := (1 : Int32)) X dX2_cut_45 (by decide) ?_
          refine z_goto (tgt := 50) X dX2_cut_46 (by decide) ?_
          exact hj
set_option maxHeartbeats 4000000 in
set_option maxRecDepth 100000 in
theorem mtX2_write (l : Launch) (D : va_G) (G : zG) {j : Nat} {p1 : Int32} {p2 : Int32} {M : zMem} {F : Int64} {Mo : zMem} (jh : j < 4) (hf : fX2_write j p1 p2 M = some Mo) : zCM l yX2_write wX2_write { frames := 1, cells := 0, slots := 0, locals := 21 } D G [.ref (G.1 (14 + j)), .int p1, .int p2] M F none Mo F := by
  refine zCM.ofV (own := RX2) (cc := cX2_write) (maxL := 3) (ret := none) (lv := [(0, .ref (G.1 (14 + j))), (1, .int p1), (2, .int p2)]) (by decide) rfl rfl (Nat.le_of_ble_eq_true rfl) rfl (fun κ X Z hm hκ1 hκ2 => ?_)
  subst hκ1 hκ2
  unfold fX2_write at hf
  refine z_aload_n X dX2_write_0 rfl 0 rfl ?_
  refine z_iload_n X dX2_write_1 rfl 1 rfl ?_
  obtain ⟨r2, h1, hf⟩ := zb1_sp hf
  refine gc_X2_37 (st := []) X jh (mtX2_hasPlace κ.2.1 κ.2.2.2.2.2.2.2.2.2.2.1 G jh h1) rfl rfl (Nat.le_of_ble_eq_true rfl) (Nat.le_of_ble_eq_true rfl) (Nat.le_of_ble_eq_true rfl) dX2_write_2 ?_
  obtain ⟨k4, k4e, hf⟩ := zj_sp hf
  have hj5 : ∀ (M3 : zMem), k4 M3 = some Mo → zV κ G 19 [(0, .ref (G.1 (14 + j))), (1, .int p1), (2, .int p2)] [] M3 F := by
    intro M3 hf
    rw [k4e] at hf
    exact z_vret X (zR_M hf Z) dX2_write_19
  clear k4e
  refine z_if_eq (tgt := 19) X dX2_write_5 (by decide) (fun h10 => ?_) (fun h10 => ?_)
  · have hf := zt h10 hf
    exact hj5 M hf
  · have hf := zf h10 hf
    refine z_aload_n X dX2_write_8 rfl 0 rfl ?_
    refine gf_X2_9 X jh dX2_write_9 ?_
    refine z_iload_n X dX2_write_12 rfl 1 rfl ?_
    refine z_aload_n X dX2_write_13 rfl 0 rfl ?_
    refine z_iload_n X dX2_write_14 rfl 2 rfl ?_
    obtain ⟨r7, h6, hf⟩ := zb1_sp hf
    refine gc_X2_41 (st := [.int p1, .ref (G.1 (18 + j))]) X jh (mtX2_cut κ.2.1 κ.2.2.2.2.2.2.2.2.2.2.1 G jh h6) rfl rfl (Nat.le_of_ble_eq_true rfl) (Nat.le_of_ble_eq_true rfl) (Nat.le_of_ble_eq_true rfl) dX2_write_15 ?_
    obtain ⟨h8, hf⟩ := zc_sp hf
    refine z_iast X (zc_places jh) (zl_places jh) (zin_sp h8) dX2_write_18 ?_
    refine z_nmM hf (fun M9 hf => ?_)
    exact hj5 M9 hf
set_option maxHeartbeats 4000000 in
set_option maxRecDepth 100000 in
theorem mtX2_faultAt (l : Launch) (D : va_G) (G : zG) {j : Nat} {p1 : Int32} {M : zMem} {F : Int64} {ro : Int32} (jh : j < 4) (hf : fX2_faultAt j p1 M = some ro) : zCM l yX2_faultAt wX2_faultAt { frames := 1, cells := 0, slots := 0, locals := 21 } D G [.ref (G.1 (14 + j)), .int p1] M F (some (.int ro)) M F := by
  refine zCM.ofV (own := RX2) (cc := cX2_faultAt) (maxL := 2) (ret := (some .int)) (lv := [(0, .ref (G.1 (14 + j))), (1, .int p1)]) (by decide) rfl rfl (Nat.le_of_ble_eq_true rfl) rfl (fun κ X Z hm hκ1 hκ2 => ?_)
  subst hκ1 hκ2
  unfold fX2_faultAt at hf
  refine z_aload_n X dX2_faultAt_0 rfl 0 rfl ?_
  obtain ⟨r2, h1, hf⟩ := zb1_sp hf
  refine gc_X2_45 (st := []) X jh (mtX2_isNothing κ.2.1 κ.2.2.2.2.2.2.2.2.2.2.1 G jh h1) rfl rfl (Nat.le_of_ble_eq_true rfl) (Nat.le_of_ble_eq_true rfl) (Nat.le_of_ble_eq_true rfl) dX2_faultAt_1 ?_
  refine z_if_eq (tgt := 9) X dX2_faultAt_4 (by decide) (fun h6 => ?_) (fun h6 => ?_)
  · have hf := zt h6 hf
    refine z_aload_n X dX2_faultAt_9 rfl 0 rfl ?_
    refine z_iload_n X dX2_faultAt_10 rfl 1 rfl ?_
    obtain ⟨r4, h3, hf⟩ := zb1_sp hf
    refine gc_X2_37 (st := []) X jh (mtX2_hasPlace κ.2.1 κ.2.2.2.2.2.2.2.2.2.2.1 G jh h3) rfl rfl (Nat.le_of_ble_eq_true rfl) (Nat.le_of_ble_eq_true rfl) (Nat.le_of_ble_eq_true rfl) dX2_faultAt_11 ?_
    have hj : zV κ G 22 [(0, .ref (G.1 (14 + j))), (1, .int p1)] [.int (if r4 = 0 then (3 : Int32) else (0 : Int32))] M F := by
      exact z_iret X (zR_i hf Z) dX2_faultAt_22
    refine z_if_eq (tgt := 21) X dX2_faultAt_14 (by decide) (fun h5 => ?_) (fun h5 => ?_)
    · try simp only [if_pos h5] at hj
      refine z_iconst (v := (3 : Int32)) X dX2_faultAt_21 (by decide) ?_
      exact hj
    · try simp only [if_neg h5] at hj
      refine z_iconst (v := (0 : Int32)) X dX2_faultAt_17 (by decide) ?_
      refine z_goto (tgt := 22) X dX2_faultAt_18 (by decide) ?_
      exact hj
  · have hf := zf h6 hf
    refine z_iconst (v := (1 : Int32)) X dX2_faultAt_7 (by decide) ?_
    exact z_iret X (zR_i hf Z) dX2_faultAt_8
set_option maxHeartbeats 4000000 in
set_option maxRecDepth 100000 in
theorem mtX2_hasPart (l : Launch) (D : va_G) (G : zG) {j : Nat} {p1 : Int32} {p2 : Int32} {M : zMem} {F : Int64} {ro : Int32} (jh : j < 4) (hf : fX2_hasPart j p1 p2 M = some ro) : zCM l yX2_hasPart wX2_hasPart { frames := 0, cells := 0, slots := 0, locals := 0 } D G [.ref (G.1 (14 + j)), .int p1, .int p2] M F (some (.int ro)) M F := by
  refine zCM.ofV (own := RX2) (cc := cX2_hasPart) (maxL := 3) (ret := (some .boolean)) (lv := [(0, .ref (G.1 (14 + j))), (1, .int p1), (2, .int p2)]) (by decide) rfl rfl (Nat.le_of_ble_eq_true rfl) rfl (fun κ X Z hm hκ1 hκ2 => ?_)
  subst hκ1 hκ2
  unfold fX2_hasPart at hf
  refine z_iload_n X dX2_hasPart_0 rfl 1 rfl ?_
  have hj : zV κ G 31 [(0, .ref (G.1 (14 + j))), (1, .int p1), (2, .int p2)] [.int (if p1 < 0 then (0 : Int32) else (if p2 < 0 then (0 : Int32) else (if (M (14 + j) 2) < p2 then (0 : Int32) else (if ((M (14 + j) 2) - p2) < p1 then (0 : Int32) else (1 : Int32)))))] M F := by
    exact z_zret X (z01_ite (Or.inl rfl) (z01_ite (Or.inl rfl) (z01_ite (Or.inl rfl) (z01_ite (Or.inl rfl) (Or.inr rfl))))) (zR_i hf Z) dX2_hasPart_31
  refine z_if_lt (tgt := 30) X dX2_hasPart_1 (by decide) (fun h1 => ?_) (fun h1 => ?_)
  · try simp only [if_pos h1] at hj
    refine z_iconst (v := (0 : Int32)) X dX2_hasPart_30 (by decide) ?_
    exact hj
  · try simp only [if_neg h1] at hj
    refine z_iload_n X dX2_hasPart_4 rfl 2 rfl ?_
    refine z_if_lt (tgt := 30) X dX2_hasPart_5 (by decide) (fun h2 => ?_) (fun h2 => ?_)
    · try simp only [if_pos h2] at hj
      refine z_iconst (v := (0 : Int32)) X dX2_hasPart_30 (by decide) ?_
      exact hj
    · try simp only [if_neg h2] at hj
      refine z_iload_n X dX2_hasPart_8 rfl 2 rfl ?_
      refine z_aload_n X dX2_hasPart_9 rfl 0 rfl ?_
      refine gf_X2_19 X jh dX2_hasPart_10 ?_
      refine z_icmp_gt (tgt := 30) X dX2_hasPart_13 (by decide) (fun h3 => ?_) (fun h3 => ?_)
      · try simp only [if_pos h3] at hj
        refine z_iconst (v := (0 : Int32)) X dX2_hasPart_30 (by decide) ?_
        exact hj
      · try simp only [if_neg h3] at hj
        refine z_iload_n X dX2_hasPart_16 rfl 1 rfl ?_
        refine z_aload_n X dX2_hasPart_17 rfl 0 rfl ?_
        refine gf_X2_19 X jh dX2_hasPart_18 ?_
        refine z_iload_n X dX2_hasPart_21 rfl 2 rfl ?_
        refine z_isub X dX2_hasPart_22 ?_
        refine z_icmp_gt (tgt := 30) X dX2_hasPart_23 (by decide) (fun h4 => ?_) (fun h4 => ?_)
        · try simp only [if_pos h4] at hj
          refine z_iconst (v := (0 : Int32)) X dX2_hasPart_30 (by decide) ?_
          exact hj
        · try simp only [if_neg h4] at hj
          refine z_iconst (v := (1 : Int32)) X dX2_hasPart_26 (by decide) ?_
          refine z_goto (tgt := 31) X dX2_hasPart_27 (by decide) ?_
          exact hj
set_option maxHeartbeats 4000000 in
set_option maxRecDepth 100000 in
theorem mtX2_faultOfCopy (l : Launch) (D : va_G) (G : zG) {j : Nat} {p1 : Int32} {j2 : Nat} {p3 : Int32} {p4 : Int32} {M : zMem} {F : Int64} {ro : Int32} (jh : j < 4) (j2h : j2 < 4) (hf : fX2_faultOfCopy j p1 j2 p3 p4 M = some ro) : zCM l yX2_faultOfCopy wX2_faultOfCopy { frames := 1, cells := 0, slots := 0, locals := 22 } D G [.ref (G.1 (14 + j)), .int p1, .ref (G.1 (14 + j2)), .int p3, .int p4] M F (some (.int ro)) M F := by
  refine zCM.ofV (own := RX2) (cc := cX2_faultOfCopy) (maxL := 5) (ret := (some .int)) (lv := [(0, .ref (G.1 (14 + j))), (1, .int p1), (2, .ref (G.1 (14 + j2))), (3, .int p3), (4, .int p4)]) (by decide) rfl rfl (Nat.le_of_ble_eq_true rfl) rfl (fun κ X Z hm hκ1 hκ2 => ?_)
  subst hκ1 hκ2
  unfold fX2_faultOfCopy at hf
  refine z_aload_n X dX2_faultOfCopy_0 rfl 0 rfl ?_
  obtain ⟨r2, h1, hf⟩ := zb1_sp hf
  refine gc_X2_45 (st := []) X jh (mtX2_isNothing κ.2.1 κ.2.2.2.2.2.2.2.2.2.2.1 G jh h1) rfl rfl (Nat.le_of_ble_eq_true rfl) (Nat.le_of_ble_eq_true rfl) (Nat.le_of_ble_eq_true rfl) dX2_faultOfCopy_1 ?_
  refine z_if_ne (tgt := 14) X dX2_faultOfCopy_4 (by decide) (fun h16 => ?_) (fun h16 => ?_)
  · have hf := zf h16 hf
    refine z_iconst (v := (1 : Int32)) X dX2_faultOfCopy_14 (by decide) ?_
    exact z_iret X (zR_i hf Z) dX2_faultOfCopy_15
  · have hf := zt h16 hf
    refine z_aload_n X dX2_faultOfCopy_7 rfl 2 rfl ?_
    obtain ⟨r4, h3, hf⟩ := zb1_sp hf
    refine gc_X2_45 (st := []) X j2h (mtX2_isNothing κ.2.1 κ.2.2.2.2.2.2.2.2.2.2.1 G j2h h3) rfl rfl (Nat.le_of_ble_eq_true rfl) (Nat.le_of_ble_eq_true rfl) (Nat.le_of_ble_eq_true rfl) dX2_faultOfCopy_8 ?_
    refine z_if_eq (tgt := 16) X dX2_faultOfCopy_11 (by decide) (fun h15 => ?_) (fun h15 => ?_)
    · have hf := zt h15 hf
      refine z_aload_n X dX2_faultOfCopy_16 rfl 0 rfl ?_
      refine gf_X2_15 X jh dX2_faultOfCopy_17 ?_
      refine z_aload_n X dX2_faultOfCopy_20 rfl 2 rfl ?_
      refine gf_X2_15 X j2h dX2_faultOfCopy_21 ?_
      refine z_icmp_eq (tgt := 29) X dX2_faultOfCopy_24 (by decide) (fun h14 => ?_) (fun h14 => ?_)
      · have hf := zt h14 hf
        refine z_aload_n X dX2_faultOfCopy_29 rfl 0 rfl ?_
        refine z_iload_n X dX2_faultOfCopy_30 rfl 1 rfl ?_
        refine z_iload X dX2_faultOfCopy_31 4 rfl ?_
        obtain ⟨r6, h5, hf⟩ := zb1_sp hf
        refine gc_X2_49 (st := []) X jh (mtX2_hasPart κ.2.1 κ.2.2.2.2.2.2.2.2.2.2.1 G jh h5) rfl rfl (Nat.le_of_ble_eq_true rfl) (Nat.le_of_ble_eq_true rfl) (Nat.le_of_ble_eq_true rfl) dX2_faultOfCopy_33 ?_
        obtain ⟨k8, k8e, hf⟩ := zj_sp hf
        have hj9 : ∀ (x7 : Int32), k8 x7 = some ro → zV κ G 54 [(0, .ref (G.1 (14 + j))), (1, .int p1), (2, .ref (G.1 (14 + j2))), (3, .int p3), (4, .int p4)] [.int x7] M F := by
          intro x7 hf
          rw [k8e] at hf
          exact z_iret X (zR_i hf Z) dX2_faultOfCopy_54
        clear k8e
        refine z_if_eq (tgt := 53) X dX2_faultOfCopy_36 (by decide) (fun h13 => ?_) (fun h13 => ?_)
        · have hf := zt h13 hf
          refine z_iconst (v := (3 : Int32)) X dX2_faultOfCopy_53 (by decide) ?_
          exact hj9 (3 : Int32) hf
        · have hf := zf h13 hf
          refine z_aload_n X dX2_faultOfCopy_39 rfl 2 rfl ?_
          refine z_iload_n X dX2_faultOfCopy_40 rfl 3 rfl ?_
          refine z_iload X dX2_faultOfCopy_41 4 rfl ?_
          obtain ⟨r11, h10, hf⟩ := zb1_sp hf
          refine gc_X2_49 (st := []) X j2h (mtX2_hasPart κ.2.1 κ.2.2.2.2.2.2.2.2.2.2.1 G j2h h10) rfl rfl (Nat.le_of_ble_eq_true rfl) (Nat.le_of_ble_eq_true rfl) (Nat.le_of_ble_eq_true rfl) dX2_faultOfCopy_43 ?_
          refine z_if_eq (tgt := 53) X dX2_faultOfCopy_46 (by decide) (fun h12 => ?_) (fun h12 => ?_)
          · have hf := zt h12 hf
            refine z_iconst (v := (3 : Int32)) X dX2_faultOfCopy_53 (by decide) ?_
            exact hj9 (3 : Int32) hf
          · have hf := zf h12 hf
            refine z_iconst (v := (0 : Int32)) X dX2_faultOfCopy_49 (by decide) ?_
            refine z_goto (tgt := 54) X dX2_faultOfCopy_50 (by decide) ?_
            exact hj9 (0 : Int32) hf
      · have hf := zf h14 hf
        refine z_iconst (v := (2 : Int32)) X dX2_faultOfCopy_27 (by decide) ?_
        exact z_iret X (zR_i hf Z) dX2_faultOfCopy_28
    · have hf := zf h15 hf
      refine z_iconst (v := (1 : Int32)) X dX2_faultOfCopy_14 (by decide) ?_
      exact z_iret X (zR_i hf Z) dX2_faultOfCopy_15
set_option maxHeartbeats 4000000 in
set_option maxRecDepth 100000 in
theorem mtX2_copyTo (l : Launch) (D : va_G) (G : zG) {j : Nat} {p1 : Int32} {j2 : Nat} {p3 : Int32} {p4 : Int32} {M : zMem} {F : Int64} {Mo : zMem} (jh : j < 4) (j2h : j2 < 4) (hf : fX2_copyTo j p1 j2 p3 p4 M = some Mo) : zCM l yX2_copyTo wX2_copyTo { frames := 1, cells := 0, slots := 0, locals := 40 } D G [.ref (G.1 (14 + j)), .int p1, .ref (G.1 (14 + j2)), .int p3, .int p4] M F none Mo F := by
  refine zCM.ofV (own := RX2) (cc := cX2_copyTo) (maxL := 5) (ret := none) (lv := [(0, .ref (G.1 (14 + j))), (1, .int p1), (2, .ref (G.1 (14 + j2))), (3, .int p3), (4, .int p4)]) (by decide) rfl rfl (Nat.le_of_ble_eq_true rfl) rfl (fun κ X Z hm hκ1 hκ2 => ?_)
  subst hκ1 hκ2
  unfold fX2_copyTo at hf
  refine z_aload_n X dX2_copyTo_0 rfl 0 rfl ?_
  refine z_iload_n X dX2_copyTo_1 rfl 1 rfl ?_
  refine z_iload X dX2_copyTo_2 4 rfl ?_
  obtain ⟨r2, h1, hf⟩ := zb1_sp hf
  refine gc_X2_49 (st := []) X jh (mtX2_hasPart κ.2.1 κ.2.2.2.2.2.2.2.2.2.2.1 G jh h1) rfl rfl (Nat.le_of_ble_eq_true rfl) (Nat.le_of_ble_eq_true rfl) (Nat.le_of_ble_eq_true rfl) dX2_copyTo_4 ?_
  obtain ⟨k4, k4e, hf⟩ := zj_sp hf
  have hj5 : ∀ (M3 : zMem), k4 M3 = some Mo → zV κ G 35 [(0, .ref (G.1 (14 + j))), (1, .int p1), (2, .ref (G.1 (14 + j2))), (3, .int p3), (4, .int p4)] [] M3 F := by
    intro M3 hf
    rw [k4e] at hf
    exact z_vret X (zR_M hf Z) dX2_copyTo_35
  clear k4e
  refine z_if_eq (tgt := 35) X dX2_copyTo_7 (by decide) (fun h11 => ?_) (fun h11 => ?_)
  · have hf := zt h11 hf
    exact hj5 M hf
  · have hf := zf h11 hf
    refine z_aload_n X dX2_copyTo_10 rfl 2 rfl ?_
    refine z_iload_n X dX2_copyTo_11 rfl 3 rfl ?_
    refine z_iload X dX2_copyTo_12 4 rfl ?_
    obtain ⟨r7, h6, hf⟩ := zb1_sp hf
    refine gc_X2_49 (st := []) X j2h (mtX2_hasPart κ.2.1 κ.2.2.2.2.2.2.2.2.2.2.1 G j2h h6) rfl rfl (Nat.le_of_ble_eq_true rfl) (Nat.le_of_ble_eq_true rfl) (Nat.le_of_ble_eq_true rfl) dX2_copyTo_14 ?_
    refine z_if_eq (tgt := 35) X dX2_copyTo_17 (by decide) (fun h10 => ?_) (fun h10 => ?_)
    · have hf := zt h10 hf
      exact hj5 M hf
    · have hf := zf h10 hf
      refine z_aload_n X dX2_copyTo_20 rfl 0 rfl ?_
      refine gf_X2_9 X jh dX2_copyTo_21 ?_
      refine z_iload_n X dX2_copyTo_24 rfl 1 rfl ?_
      refine z_aload_n X dX2_copyTo_25 rfl 2 rfl ?_
      refine gf_X2_9 X j2h dX2_copyTo_26 ?_
      refine z_iload_n X dX2_copyTo_29 rfl 3 rfl ?_
      refine z_iload X dX2_copyTo_30 4 rfl ?_
      obtain ⟨h8, hf⟩ := zc_sp hf
      obtain ⟨h81, h82, h83, h84, h85⟩ := zcp_sp h8
      refine z_copy X (zc_places jh) (zc_places j2h) (zl_places jh) (zl_places j2h) (List.mem_cons_of_mem _ zw_14_19) (List.mem_cons_of_mem _ zw_14_20) (List.mem_cons_of_mem _ zw_14_21) (List.mem_cons_of_mem _ zw_14_22) h81 h82 h83 h84 h85 (Nat.le_of_ble_eq_true rfl) (Nat.le_of_ble_eq_true rfl) dX2_copyTo_32 ?_
      refine z_nmM hf (fun M9 hf => ?_)
      exact hj5 M9 hf
set_option maxHeartbeats 4000000 in
set_option maxRecDepth 100000 in
theorem mtX3_attempts (l : Launch) (D : va_G) (G : zG) {M : zMem} {F : Int64} {ro : Int32} (hf : fX3_attempts M = some ro) : zCM l yX3_attempts wX3_attempts { frames := 0, cells := 0, slots := 0, locals := 0 } D G [.ref (G.1 22)] M F (some (.int ro)) M F := by
  refine zCM.ofV (own := RX3) (cc := cX3_attempts) (maxL := 1) (ret := (some .int)) (lv := [(0, .ref (G.1 22))]) (by decide) rfl rfl (Nat.le_of_ble_eq_true rfl) rfl (fun κ X Z hm hκ1 hκ2 => ?_)
  subst hκ1 hκ2
  unfold fX3_attempts at hf
  refine z_aload_n X dX3_attempts_0 rfl 0 rfl ?_
  refine gf_X3_22 X dX3_attempts_1 ?_
  exact z_iret X (zR_i hf Z) dX3_attempts_4
set_option maxHeartbeats 4000000 in
set_option maxRecDepth 100000 in
theorem mtX3_attempt (l : Launch) (D : va_G) (G : zG) {p1 : Int32} {M : zMem} {F : Int64} {ro : Int32} (hf : fX3_attempt p1 M = some ro) : zCM l yX3_attempt wX3_attempt { frames := 0, cells := 0, slots := 0, locals := 0 } D G [.ref (G.1 22), .int p1] M F (some (.int ro)) M F := by
  refine zCM.ofV (own := RX3) (cc := cX3_attempt) (maxL := 2) (ret := (some .int)) (lv := [(0, .ref (G.1 22)), (1, .int p1)]) (by decide) rfl rfl (Nat.le_of_ble_eq_true rfl) rfl (fun κ X Z hm hκ1 hκ2 => ?_)
  subst hκ1 hκ2
  unfold fX3_attempt at hf
  refine z_iload_n X dX3_attempt_0 rfl 1 rfl ?_
  obtain ⟨k2, k2e, hf⟩ := zj_sp hf
  have hj3 : ∀ (x1 : Int32), k2 x1 = some ro → zV κ G 22 [(0, .ref (G.1 22)), (1, .int p1)] [.int x1] M F := by
    intro x1 hf
    rw [k2e] at hf
    exact z_iret X (zR_i hf Z) dX3_attempt_22
  clear k2e
  refine z_if_lt (tgt := 21) X dX3_attempt_1 (by decide) (fun h6 => ?_) (fun h6 => ?_)
  · have hf := zt h6 hf
    refine z_iconst (v := (0 : Int32)) X dX3_attempt_21 (by decide) ?_
    exact hj3 (0 : Int32) hf
  · have hf := zf h6 hf
    refine z_iload_n X dX3_attempt_4 rfl 1 rfl ?_
    refine z_aload_n X dX3_attempt_5 rfl 0 rfl ?_
    refine gf_X3_22 X dX3_attempt_6 ?_
    refine z_icmp_ge (tgt := 21) X dX3_attempt_9 (by decide) (fun h5 => ?_) (fun h5 => ?_)
    · have hf := zt h5 hf
      refine z_iconst (v := (0 : Int32)) X dX3_attempt_21 (by decide) ?_
      exact hj3 (0 : Int32) hf
    · have hf := zf h5 hf
      refine z_aload_n X dX3_attempt_12 rfl 0 rfl ?_
      refine gf_X3_15 X dX3_attempt_13 ?_
      refine z_iload_n X dX3_attempt_16 rfl 1 rfl ?_
      obtain ⟨h4, hf⟩ := zc_sp hf
      refine z_iald X zc_24 zl_24 (zin_sp h4) dX3_attempt_17 ?_
      refine z_goto (tgt := 22) X dX3_attempt_18 (by decide) ?_
      exact hj3 (M 24 p1.toNatClampNeg) hf
set_option maxHeartbeats 4000000 in
set_option maxRecDepth 100000 in
theorem mtX3_sharpest (l : Launch) (D : va_G) (G : zG) {M : zMem} {F : Int64} {ro : Int32} (hf : fX3_sharpest M = some ro) : zCM l yX3_sharpest wX3_sharpest { frames := 0, cells := 0, slots := 0, locals := 0 } D G [.ref (G.1 22)] M F (some (.int ro)) M F := by
  refine zCM.ofV (own := RX3) (cc := cX3_sharpest) (maxL := 1) (ret := (some .int)) (lv := [(0, .ref (G.1 22))]) (by decide) rfl rfl (Nat.le_of_ble_eq_true rfl) rfl (fun κ X Z hm hκ1 hκ2 => ?_)
  subst hκ1 hκ2
  unfold fX3_sharpest at hf
  refine z_aload_n X dX3_sharpest_0 rfl 0 rfl ?_
  refine gf_X3_26 X dX3_sharpest_1 ?_
  exact z_iret X (zR_i hf Z) dX3_sharpest_4
set_option maxHeartbeats 4000000 in
set_option maxRecDepth 100000 in
theorem mtJ9_floorDiv_7cf53 (l : Launch) (D : va_G) (G : zG) {p0 : Int32} {p1 : Int32} {M : zMem} {F : Int64} {ro : Int32} (hf : fJ9_floorDiv_7cf53 p0 p1 = some ro) : zCM l yJ9_floorDiv_7cf53 wJ9_floorDiv_7cf53 { frames := 0, cells := 0, slots := 0, locals := 0 } D G [.int p0, .int p1] M F (some (.int ro)) M F := by
  refine zCM.ofVF (own := RJ9) (cc := cJ9_floorDiv_7cf53) (maxL := 3) (ret := (some .int)) (lv := [(0, .int p0), (1, .int p1)]) (by decide +kernel) rfl rfl (Nat.le_of_ble_eq_true rfl) rfl (fun κ X Z hm hκ1 hκ2 => ?_)
  subst hκ1 hκ2
  unfold fJ9_floorDiv_7cf53 at hf
  refine z_iload_n X dJ9_floorDiv_7cf53_0 rfl 0 rfl ?_
  refine z_iload_n X dJ9_floorDiv_7cf53_1 rfl 1 rfl ?_
  obtain ⟨h1, hf⟩ := zc_sp hf
  refine z_idiv X dJ9_floorDiv_7cf53_2 (of_decide_eq_true h1) ?_
  refine z_nmI hf (fun x2 hf => ?_)
  refine z_istore_n (lv' := [(2, .int x2), (0, .int p0), (1, .int p1)]) X dJ9_floorDiv_7cf53_3 rfl hm (by decide) rfl ?_
  refine z_iload_n X dJ9_floorDiv_7cf53_4 rfl 1 rfl ?_
  refine z_iload_n X dJ9_floorDiv_7cf53_5 rfl 2 rfl ?_
  refine z_ixor X dJ9_floorDiv_7cf53_6 ?_
  refine z_if_ge (tgt := 21) X dJ9_floorDiv_7cf53_7 (by decide) (fun h4 => ?_) (fun h4 => ?_)
  · have hf := zt h4 hf
    refine z_iload_n X dJ9_floorDiv_7cf53_21 rfl 0 rfl ?_
    exact z_iret X (zR_i hf Z) dJ9_floorDiv_7cf53_22
  · have hf := zf h4 hf
    refine z_iload_n X dJ9_floorDiv_7cf53_10 rfl 0 rfl ?_
    refine z_iload_n X dJ9_floorDiv_7cf53_11 rfl 2 rfl ?_
    refine z_imul X dJ9_floorDiv_7cf53_12 ?_
    refine z_iload_n X dJ9_floorDiv_7cf53_13 rfl 1 rfl ?_
    refine z_icmp_eq (tgt := 21) X dJ9_floorDiv_7cf53_14 (by decide) (fun h3 => ?_) (fun h3 => ?_)
    · have hf := zt h3 hf
      refine z_iload_n X dJ9_floorDiv_7cf53_21 rfl 0 rfl ?_
      exact z_iret X (zR_i hf Z) dJ9_floorDiv_7cf53_22
    · have hf := zf h3 hf
      refine z_iload_n X dJ9_floorDiv_7cf53_17 rfl 0 rfl ?_
      refine z_iconst (v := (1 : Int32)) X dJ9_floorDiv_7cf53_18 (by decide) ?_
      refine z_isub X dJ9_floorDiv_7cf53_19 ?_
      exact z_iret X (zR_i hf Z) dJ9_floorDiv_7cf53_20
