set_option maxHeartbeats 4000000 in
set_option maxRecDepth 100000 in
theorem mtX6_shiftOf (l : Launch) (D : va_G) (G : zG) {p0 : Int32} {p1 : Int32} {p2 : Int32} {M : zMem} {F : Int64} {ro : Int32} (hf : fX6_shiftOf p0 p1 p2 = some ro) : zCM l yX6_shiftOf wX6_shiftOf { frames := 1, cells := 0, slots := 0, locals := 22 } D G [.int p0, .int p1, .int p2] M F (some (.int ro)) M F := by
  refine zCM.ofV (own := RX6) (cc := cX6_shiftOf) (maxL := 4) (ret := (some .int)) (lv := [(0, .int p0), (1, .int p1), (2, .int p2)]) (by decide) rfl rfl (Nat.le_of_ble_eq_true rfl) rfl (fun κ X Z hm hκ1 hκ2 => ?_)
  subst hκ1 hκ2
  unfold fX6_shiftOf at hf
  refine z_iload_n X dX6_shiftOf_0 rfl 0 rfl ?_
  have hj : zV κ G 12 [(0, .int p0), (1, .int p1), (2, .int p2)] [.int (if p0 = 0 then p2 else ((31 : Int32) - p2))] M F := by
    refine z_nmI hf (fun x2 hf => ?_)
    refine z_istore_n (lv' := [(3, .int x2), (0, .int p0), (1, .int p1), (2, .int p2)]) X dX6_shiftOf_12 rfl hm (by decide) rfl ?_
    refine z_iload_n X dX6_shiftOf_13 rfl 2 rfl ?_
    refine z_iload_n X dX6_shiftOf_14 rfl 0 rfl ?_
    refine z_imul X dX6_shiftOf_15 ?_
    refine z_bipush (v := (8 : Int32)) X dX6_shiftOf_16 (by decide) ?_
    refine z_iadd X dX6_shiftOf_18 ?_
    refine z_bipush (v := (16 : Int32)) X dX6_shiftOf_19 (by decide) ?_
    obtain ⟨r4, h3, hf⟩ := zb1_sp hf
    refine gc_X6_255 (st := []) X (mtJ9_floorDiv_7cf53 κ.2.1 κ.2.2.2.2.2.2.2.2.2.2.1 G  h3) rfl rfl (Nat.le_of_ble_eq_true rfl) (Nat.le_of_ble_eq_true rfl) (Nat.le_of_ble_eq_true rfl) dX6_shiftOf_21 ?_
    exact z_iret X (zR_i hf Z) dX6_shiftOf_24
  refine z_if_ne (tgt := 8) X dX6_shiftOf_1 (by decide) (fun h1 => ?_) (fun h1 => ?_)
  · try simp only [if_neg h1] at hj
    refine z_bipush (v := (31 : Int32)) X dX6_shiftOf_8 (by decide) ?_
    refine z_iload_n X dX6_shiftOf_10 rfl 2 rfl ?_
    refine z_isub X dX6_shiftOf_11 ?_
    exact hj
  · try simp only [if_pos h1] at hj
    refine z_iload_n X dX6_shiftOf_4 rfl 2 rfl ?_
    refine z_goto (tgt := 12) X dX6_shiftOf_5 (by decide) ?_
    exact hj
set_option maxHeartbeats 4000000 in
set_option maxRecDepth 100000 in
theorem mtX3_countIn (l : Launch) (D : va_G) (G : zG) {p1 : Int32} {M : zMem} {F : Int64} {Mo : zMem} (hf : fX3_countIn p1 M = some Mo) : zCM l yX3_countIn wX3_countIn { frames := 0, cells := 0, slots := 0, locals := 0 } D G [.ref (G.1 22), .int p1] M F none Mo F := by
  refine zCM.ofV (own := RX3) (cc := cX3_countIn) (maxL := 2) (ret := none) (lv := [(0, .ref (G.1 22)), (1, .int p1)]) (by decide) rfl rfl (Nat.le_of_ble_eq_true rfl) rfl (fun κ X Z hm hκ1 hκ2 => ?_)
  subst hκ1 hκ2
  unfold fX3_countIn at hf
  refine z_iload_n X dX3_countIn_0 rfl 1 rfl ?_
  refine z_bipush (v := (-31 : Int32)) X dX3_countIn_1 (by decide) ?_
  obtain ⟨k2, k2e, hf⟩ := zj_sp hf
  have hj3 : ∀ (M1 : zMem), k2 M1 = some Mo → zV κ G 25 [(0, .ref (G.1 22)), (1, .int p1)] [] M1 F := by
    intro M1 hf
    rw [k2e] at hf
    exact z_vret X (zR_M hf Z) dX3_countIn_25
  clear k2e
  refine z_icmp_lt (tgt := 25) X dX3_countIn_3 (by decide) (fun h8 => ?_) (fun h8 => ?_)
  · have hf := zt h8 hf
    exact hj3 M hf
  · have hf := zf h8 hf
    refine z_iload_n X dX3_countIn_6 rfl 1 rfl ?_
    refine z_bipush (v := (54 : Int32)) X dX3_countIn_7 (by decide) ?_
    refine z_icmp_gt (tgt := 25) X dX3_countIn_9 (by decide) (fun h7 => ?_) (fun h7 => ?_)
    · have hf := zt h7 hf
      exact hj3 M hf
    · have hf := zf h7 hf
      refine z_aload_n X dX3_countIn_12 rfl 0 rfl ?_
      refine gf_X3_11 X dX3_countIn_13 ?_
      refine z_iload_n X dX3_countIn_16 rfl 1 rfl ?_
      refine z_bipush (v := (-31 : Int32)) X dX3_countIn_17 (by decide) ?_
      refine z_isub X dX3_countIn_19 ?_
      refine z_dup2 X dX3_countIn_20 rfl rfl ?_
      obtain ⟨h4, hf⟩ := zc_sp hf
      refine z_iald X zc_23 zl_23 (zin_sp h4) dX3_countIn_21 ?_
      refine z_iconst (v := (1 : Int32)) X dX3_countIn_22 (by decide) ?_
      refine z_iadd X dX3_countIn_23 ?_
      obtain ⟨h5, hf⟩ := zc_sp hf
      refine z_iast X zc_23 zl_23 (zin_sp h5) dX3_countIn_24 ?_
      refine z_nmM hf (fun M6 hf => ?_)
      exact hj3 M6 hf
set_option maxHeartbeats 4000000 in
set_option maxRecDepth 100000 in
theorem mtX3_tally (l : Launch) (D : va_G) (G : zG) {p2 : Int32} {p3 : Int32} {M : zMem} {F : Int64} {Mo : zMem} (hf : fX3_tally p2 p3 M = some Mo) : zCM l yX3_tally wX3_tally { frames := 2, cells := 0, slots := 0, locals := 45 } D G [.ref (G.1 22), .ref (G.1 1), .int p2, .int p3] M F none Mo F := by
  refine zCM.ofV (own := RX3) (cc := cX3_tally) (maxL := 7) (ret := none) (lv := [(0, .ref (G.1 22)), (1, .ref (G.1 1)), (2, .int p2), (3, .int p3)]) (by decide) rfl rfl (Nat.le_of_ble_eq_true rfl) rfl (fun κ X Z hm hκ1 hκ2 => ?_)
  subst hκ1 hκ2
  unfold fX3_tally at hf
  refine z_aload_n X dX3_tally_0 rfl 0 rfl ?_
  refine gf_X3_11 X dX3_tally_1 ?_
  refine z_iconst (v := (0 : Int32)) X dX3_tally_4 (by decide) ?_
  obtain ⟨M2, h1, hf⟩ := zb1_sp hf
  refine gc_X3_60 (st := []) X (mtJ7_fill_53178 κ.2.1 κ.2.2.2.2.2.2.2.2.2.2.1 G zc_23 zl_23 h1) rfl rfl (Nat.le_of_ble_eq_true rfl) (Nat.le_of_ble_eq_true rfl) (Nat.le_of_ble_eq_true rfl) dX3_tally_5 ?_
  refine z_iconst (v := (0 : Int32)) X dX3_tally_8 (by decide) ?_
  refine z_istore (lv' := [(4, .int (0 : Int32)), (0, .ref (G.1 22)), (1, .ref (G.1 1)), (2, .int p2), (3, .int p3)]) X dX3_tally_9 hm (by decide) rfl ?_
  obtain ⟨b10, hb11, hf⟩ := zb1_sp hf
  have hX5 : ∀ t, t = b10 → zu2 (fun (x48 : Int32) (M49 : zMem) => zV κ G 100 [(4, .int x48), (0, .ref (G.1 22)), (1, .ref (G.1 1)), (2, .int p2), (3, .int p3)] [] M49 F) t := by
    intro t ht
    subst ht
    obtain ⟨x48, M49⟩ := t
    show zV κ G 100 [(4, .int x48), (0, .ref (G.1 22)), (1, .ref (G.1 1)), (2, .int p2), (3, .int p3)] [] M49 F
    exact z_vret X (zR_M hf Z) dX3_tally_100
  refine zlp_walk (P := zu2 (fun (x3 : Int32) (M4 : zMem) => zV κ G 11 [(4, .int x3), (0, .ref (G.1 22)), (1, .ref (G.1 1)), (2, .int p2), (3, .int p3)] [] M4 F)) (fun a50 w9 hf hi7 hx8 => ?_) _ _ hb11
  obtain ⟨x3, M4⟩ := a50
  show zV κ G 11 [(4, .int x3), (0, .ref (G.1 22)), (1, .ref (G.1 1)), (2, .int p2), (3, .int p3)] [] M4 F
  replace hf : fX3_tally_L11 p2 p3 x3 M4 = some w9 := hf
  unfold fX3_tally_L11 at hf
  refine z_iload X dX3_tally_11 0 rfl ?_
  refine z_aload_n X dX3_tally_13 rfl 2 rfl ?_
  obtain ⟨r13, h12, hf⟩ := zb1_sp hf
  refine gc_X3_66 (st := [.int x3]) X (mtX4_width κ.2.1 κ.2.2.2.2.2.2.2.2.2.2.1 G  h12) rfl rfl (Nat.le_of_ble_eq_true rfl) (Nat.le_of_ble_eq_true rfl) (Nat.le_of_ble_eq_true rfl) dX3_tally_14 ?_
  refine z_icmp_ge (tgt := 100) X dX3_tally_17 (by decide) (fun h47 => ?_) (fun h47 => ?_)
  · have hf := zt h47 hf
    have hq := hX5 _ (hx8 _ (Option.some.inj hf).symm)
    exact hq
  · have hf := zf h47 hf
    refine z_aload_n X dX3_tally_20 rfl 2 rfl ?_
    refine z_iload X dX3_tally_21 0 rfl ?_
    obtain ⟨r15, h14, hf⟩ := zb1_sp hf
    refine gc_X3_72 (st := []) X (mtX4_dots κ.2.1 κ.2.2.2.2.2.2.2.2.2.2.1 G  h14) rfl rfl (Nat.le_of_ble_eq_true rfl) (Nat.le_of_ble_eq_true rfl) (Nat.le_of_ble_eq_true rfl) dX3_tally_23 ?_
    refine z_istore (lv' := [(5, .int r15), (4, .int x3), (0, .ref (G.1 22)), (1, .ref (G.1 1)), (2, .int p2), (3, .int p3)]) X dX3_tally_26 hm (by decide) rfl ?_
    refine z_iconst (v := (0 : Int32)) X dX3_tally_28 (by decide) ?_
    refine z_istore (lv' := [(6, .int (0 : Int32)), (5, .int r15), (4, .int x3), (0, .ref (G.1 22)), (1, .ref (G.1 1)), (2, .int p2), (3, .int p3)]) X dX3_tally_29 hm (by decide) rfl ?_
    obtain ⟨b24, hb25, hf⟩ := zb1_sp hf
    have hX19 : ∀ t, t = b24 → zu3 (fun (x43 : Int32) (x44 : Int32) (M45 : zMem) => zV κ G 94 [(6, .int x43), (5, .int x44), (4, .int x3), (0, .ref (G.1 22)), (1, .ref (G.1 1)), (2, .int p2), (3, .int p3)] [] M45 F) t := by
      intro t ht
      subst ht
      obtain ⟨x43, x44, M45⟩ := t
      show zV κ G 94 [(6, .int x43), (5, .int x44), (4, .int x3), (0, .ref (G.1 22)), (1, .ref (G.1 1)), (2, .int p2), (3, .int p3)] [] M45 F
      refine z_iinc (lv' := [(4, .int (x3 + (1 : Int32))), (6, .int x43), (5, .int x44), (0, .ref (G.1 22)), (1, .ref (G.1 1)), (2, .int p2), (3, .int p3)]) (v := x3 + (1 : Int32)) X dX3_tally_94 (j := 2) rfl rfl hm (by decide) rfl ?_
      refine z_goto (tgt := 11) X dX3_tally_97 (by decide) ?_
      refine z_sub [0, 3, 4, 5, 6] rfl ?_
      have hq := hi7 _ (Option.some.inj hf).symm
      exact hq
    refine zlp_walk (P := zu3 (fun (x16 : Int32) (x17 : Int32) (M18 : zMem) => zV κ G 31 [(6, .int x16), (5, .int x17), (4, .int x3), (0, .ref (G.1 22)), (1, .ref (G.1 1)), (2, .int p2), (3, .int p3)] [] M18 F)) (fun a46 w23 hf hi21 hx22 => ?_) _ _ hb25
    obtain ⟨x16, x17, M18⟩ := a46
    show zV κ G 31 [(6, .int x16), (5, .int x17), (4, .int x3), (0, .ref (G.1 22)), (1, .ref (G.1 1)), (2, .int p2), (3, .int p3)] [] M18 F
    replace hf : fX3_tally_L31 p2 p3 x3 x16 x17 M18 = some w23 := hf
    unfold fX3_tally_L31 at hf
    refine z_iload X dX3_tally_31 0 rfl ?_
    refine z_bipush (v := (32 : Int32)) X dX3_tally_33 (by decide) ?_
    refine z_icmp_ge (tgt := 94) X dX3_tally_35 (by decide) (fun h42 => ?_) (fun h42 => ?_)
    · have hf := zt h42 hf
      have hq := hX19 _ (hx22 _ (Option.some.inj hf).symm)
      exact hq
    · have hf := zf h42 hf
      refine z_iload X dX3_tally_38 1 rfl ?_
      refine z_if_eq (tgt := 94) X dX3_tally_40 (by decide) (fun h41 => ?_) (fun h41 => ?_)
      · have hf := zt h41 hf
        have hq := hX19 _ (hx22 _ (Option.some.inj hf).symm)
        exact hq
      · have hf := zf h41 hf
        refine z_iload X dX3_tally_43 1 rfl ?_
        refine z_iconst (v := (1 : Int32)) X dX3_tally_45 (by decide) ?_
        refine z_iand X dX3_tally_46 ?_
        refine z_iconst (v := (1 : Int32)) X dX3_tally_47 (by decide) ?_
        obtain ⟨k27, k27e, hf⟩ := zj_sp hf
        have hj28 : ∀ (M26 : zMem), k27 M26 = some w23 → zV κ G 82 [(6, .int x16), (5, .int x17), (4, .int x3), (0, .ref (G.1 22)), (1, .ref (G.1 1)), (2, .int p2), (3, .int p3)] [] M26 F := by
          intro M26 hf
          rw [k27e] at hf
          refine z_iload X dX3_tally_82 1 rfl ?_
          refine z_iconst (v := (1 : Int32)) X dX3_tally_84 (by decide) ?_
          refine z_iushr X dX3_tally_85 ?_
          refine z_nmI hf (fun x40 hf => ?_)
          refine z_istore (lv' := [(5, .int x40), (6, .int x16), (4, .int x3), (0, .ref (G.1 22)), (1, .ref (G.1 1)), (2, .int p2), (3, .int p3)]) X dX3_tally_86 hm (by decide) rfl ?_
          refine z_iinc (lv' := [(6, .int (x16 + (1 : Int32))), (5, .int x40), (4, .int x3), (0, .ref (G.1 22)), (1, .ref (G.1 1)), (2, .int p2), (3, .int p3)]) (v := x16 + (1 : Int32)) X dX3_tally_88 (j := 1) rfl rfl hm (by decide) rfl ?_
          refine z_goto (tgt := 31) X dX3_tally_91 (by decide) ?_
          have hq := hi21 _ (Option.some.inj hf).symm
          exact hq
        clear k27e
        refine z_icmp_ne (tgt := 82) X dX3_tally_48 (by decide) (fun h39 => ?_) (fun h39 => ?_)
        · have hf := zf h39 hf
          exact hj28 M18 hf
        · have hf := zt h39 hf
          refine z_aload_n X dX3_tally_51 rfl 3 rfl ?_
          refine z_iload_n X dX3_tally_52 rfl 5 rfl ?_
          obtain ⟨k30, k30e, hf⟩ := zj_sp hf
          have hj31 : ∀ (x29 : Int32), k30 x29 = some w23 → zV κ G 79 [(6, .int x16), (5, .int x17), (4, .int x3), (0, .ref (G.1 22)), (1, .ref (G.1 1)), (2, .int p2), (3, .int p3)] [.int x29, .ref (G.1 22)] M18 F := by
            intro x29 hf
            rw [k30e] at hf
            obtain ⟨M38, h37, hf⟩ := zb1_sp hf
            refine gc_X3_79 (st := []) X (mtX3_countIn κ.2.1 κ.2.2.2.2.2.2.2.2.2.2.1 G  h37) rfl rfl (Nat.le_of_ble_eq_true rfl) (Nat.le_of_ble_eq_true rfl) (Nat.le_of_ble_eq_true rfl) dX3_tally_79 ?_
            exact hj28 M38 hf
          clear k30e
          refine z_if_ne (tgt := 69) X dX3_tally_53 (by decide) (fun h36 => ?_) (fun h36 => ?_)
          · have hf := zf h36 hf
            refine z_iload X dX3_tally_69 2 rfl ?_
            refine z_iconst (v := (1 : Int32)) X dX3_tally_71 (by decide) ?_
            refine z_iload_n X dX3_tally_72 rfl 6 rfl ?_
            refine z_iload X dX3_tally_73 0 rfl ?_
            obtain ⟨r33, h32, hf⟩ := zb1_sp hf
            refine gc_X3_75 (st := [.int x3, .ref (G.1 22)]) X (mtX6_shiftOf κ.2.1 κ.2.2.2.2.2.2.2.2.2.2.1 G  h32) rfl rfl (Nat.le_of_ble_eq_true rfl) (Nat.le_of_ble_eq_true rfl) (Nat.le_of_ble_eq_true rfl) dX3_tally_75 ?_
            refine z_isub X dX3_tally_78 ?_
            exact hj31 (x3 - r33) hf
          · have hf := zt h36 hf
            refine z_iload X dX3_tally_56 0 rfl ?_
            refine z_iconst (v := (0 : Int32)) X dX3_tally_58 (by decide) ?_
            refine z_iload_n X dX3_tally_59 rfl 6 rfl ?_
            refine z_iload X dX3_tally_60 2 rfl ?_
            obtain ⟨r35, h34, hf⟩ := zb1_sp hf
            refine gc_X3_75 (st := [.int x16, .ref (G.1 22)]) X (mtX6_shiftOf κ.2.1 κ.2.2.2.2.2.2.2.2.2.2.1 G  h34) rfl rfl (Nat.le_of_ble_eq_true rfl) (Nat.le_of_ble_eq_true rfl) (Nat.le_of_ble_eq_true rfl) dX3_tally_62 ?_
            refine z_isub X dX3_tally_65 ?_
            refine z_goto (tgt := 79) X dX3_tally_66 (by decide) ?_
            exact hj31 (x16 - r35) hf
set_option maxHeartbeats 4000000 in
set_option maxRecDepth 100000 in
theorem mtX3_countAt (l : Launch) (D : va_G) (G : zG) {p2 : Int32} {p3 : Int32} {p4 : Int32} {M : zMem} {F : Int64} {ro : Int32} {Mo : zMem} (hf : fX3_countAt p2 p3 p4 M = some (ro, Mo)) : zCM l yX3_countAt wX3_countAt { frames := 3, cells := 0, slots := 0, locals := 71 } D G [.ref (G.1 22), .ref (G.1 1), .int p2, .int p3, .int p4] M F (some (.int ro)) Mo F := by
  refine zCM.ofV (own := RX3) (cc := cX3_countAt) (maxL := 5) (ret := (some .int)) (lv := [(0, .ref (G.1 22)), (1, .ref (G.1 1)), (2, .int p2), (3, .int p3), (4, .int p4)]) (by decide) rfl rfl (Nat.le_of_ble_eq_true rfl) rfl (fun κ X Z hm hκ1 hκ2 => ?_)
  subst hκ1 hκ2
  unfold fX3_countAt at hf
  refine z_aload_n X dX3_countAt_0 rfl 0 rfl ?_
  refine z_aload_n X dX3_countAt_1 rfl 1 rfl ?_
  refine z_iload_n X dX3_countAt_2 rfl 2 rfl ?_
  refine z_iload_n X dX3_countAt_3 rfl 3 rfl ?_
  obtain ⟨M2, h1, hf⟩ := zb1_sp hf
  refine gc_X3_32 (st := []) X (mtX3_tally κ.2.1 κ.2.2.2.2.2.2.2.2.2.2.1 G  h1) rfl rfl (Nat.le_of_ble_eq_true rfl) (Nat.le_of_ble_eq_true rfl) (Nat.le_of_ble_eq_true rfl) dX3_countAt_4 ?_
  refine z_iload X dX3_countAt_7 4 rfl ?_
  refine z_bipush (v := (-31 : Int32)) X dX3_countAt_9 (by decide) ?_
  obtain ⟨k4, k4e, hf⟩ := zj_sp hf
  have hj5 : ∀ (x3 : Int32), k4 x3 = some (ro, Mo) → zV κ G 35 [(0, .ref (G.1 22)), (1, .ref (G.1 1)), (2, .int p2), (3, .int p3), (4, .int p4)] [.int x3] M2 F := by
    intro x3 hf
    rw [k4e] at hf
    exact z_iret X (zR_iM hf Z) dX3_countAt_35
  clear k4e
  refine z_icmp_lt (tgt := 34) X dX3_countAt_11 (by decide) (fun h8 => ?_) (fun h8 => ?_)
  · have hf := zt h8 hf
    refine z_iconst (v := (0 : Int32)) X dX3_countAt_34 (by decide) ?_
    exact hj5 (0 : Int32) hf
  · have hf := zf h8 hf
    refine z_iload X dX3_countAt_14 4 rfl ?_
    refine z_bipush (v := (54 : Int32)) X dX3_countAt_16 (by decide) ?_
    refine z_icmp_gt (tgt := 34) X dX3_countAt_18 (by decide) (fun h7 => ?_) (fun h7 => ?_)
    · have hf := zt h7 hf
      refine z_iconst (v := (0 : Int32)) X dX3_countAt_34 (by decide) ?_
      exact hj5 (0 : Int32) hf
    · have hf := zf h7 hf
      refine z_aload_n X dX3_countAt_21 rfl 0 rfl ?_
      refine gf_X3_11 X dX3_countAt_22 ?_
      refine z_iload X dX3_countAt_25 4 rfl ?_
      refine z_bipush (v := (-31 : Int32)) X dX3_countAt_27 (by decide) ?_
      refine z_isub X dX3_countAt_29 ?_
      obtain ⟨h6, hf⟩ := zc_sp hf
      refine z_iald X zc_23 zl_23 (zin_sp h6) dX3_countAt_30 ?_
      refine z_goto (tgt := 35) X dX3_countAt_31 (by decide) ?_
      exact hj5 (M2 23 (p4 - (-31 : Int32)).toNatClampNeg) hf
set_option maxHeartbeats 4000000 in
set_option maxRecDepth 100000 in
theorem mtX3_sharpness (l : Launch) (D : va_G) (G : zG) {p2 : Int32} {p3 : Int32} {M : zMem} {F : Int64} {ro : Int32} {Mo : zMem} (hf : fX3_sharpness p2 p3 M = some (ro, Mo)) : zCM l yX3_sharpness wX3_sharpness { frames := 3, cells := 0, slots := 0, locals := 71 } D G [.ref (G.1 22), .ref (G.1 1), .int p2, .int p3] M F (some (.int ro)) Mo F := by
  refine zCM.ofV (own := RX3) (cc := cX3_sharpness) (maxL := 10) (ret := (some .int)) (lv := [(0, .ref (G.1 22)), (1, .ref (G.1 1)), (2, .int p2), (3, .int p3)]) (by decide) rfl rfl (Nat.le_of_ble_eq_true rfl) rfl (fun κ X Z hm hκ1 hκ2 => ?_)
  subst hκ1 hκ2
  unfold fX3_sharpness at hf
  refine z_aload_n X dX3_sharpness_0 rfl 0 rfl ?_
  refine z_aload_n X dX3_sharpness_1 rfl 1 rfl ?_
  refine z_iload_n X dX3_sharpness_2 rfl 2 rfl ?_
  refine z_iload_n X dX3_sharpness_3 rfl 3 rfl ?_
  obtain ⟨M2, h1, hf⟩ := zb1_sp hf
  refine gc_X3_32 (st := []) X (mtX3_tally κ.2.1 κ.2.2.2.2.2.2.2.2.2.2.1 G  h1) rfl rfl (Nat.le_of_ble_eq_true rfl) (Nat.le_of_ble_eq_true rfl) (Nat.le_of_ble_eq_true rfl) dX3_sharpness_4 ?_
  refine z_iconst (v := (0 : Int32)) X dX3_sharpness_7 (by decide) ?_
  refine z_istore (lv' := [(4, .int (0 : Int32)), (0, .ref (G.1 22)), (1, .ref (G.1 1)), (2, .int p2), (3, .int p3)]) X dX3_sharpness_8 hm (by decide) rfl ?_
  refine z_iconst (v := (0 : Int32)) X dX3_sharpness_10 (by decide) ?_
  refine z_istore (lv' := [(5, .int (0 : Int32)), (4, .int (0 : Int32)), (0, .ref (G.1 22)), (1, .ref (G.1 1)), (2, .int p2), (3, .int p3)]) X dX3_sharpness_11 hm (by decide) rfl ?_
  refine z_aload_n X dX3_sharpness_13 rfl 2 rfl ?_
  refine gf_X3_11 X dX3_sharpness_14 ?_
  refine z_astore (lv' := [(6, .ref (G.1 23)), (5, .int (0 : Int32)), (4, .int (0 : Int32)), (0, .ref (G.1 22)), (1, .ref (G.1 1)), (2, .int p2), (3, .int p3)]) X dX3_sharpness_17 hm (by decide) rfl ?_
  refine z_aload X dX3_sharpness_19 0 rfl ?_
  refine z_alen (v := (86 : Int32)) X zc_23 zl_23 ⟨_, rfl⟩ (by decide) dX3_sharpness_21 ?_
  refine z_istore (lv' := [(7, .int (86 : Int32)), (6, .ref (G.1 23)), (5, .int (0 : Int32)), (4, .int (0 : Int32)), (0, .ref (G.1 22)), (1, .ref (G.1 1)), (2, .int p2), (3, .int p3)]) X dX3_sharpness_22 hm (by decide) rfl ?_
  refine z_iconst (v := (0 : Int32)) X dX3_sharpness_24 (by decide) ?_
  refine z_istore (lv' := [(8, .int (0 : Int32)), (7, .int (86 : Int32)), (6, .ref (G.1 23)), (5, .int (0 : Int32)), (4, .int (0 : Int32)), (0, .ref (G.1 22)), (1, .ref (G.1 1)), (2, .int p2), (3, .int p3)]) X dX3_sharpness_25 hm (by decide) rfl ?_
  refine z_sub [0, 1, 2, 3, 4] rfl ?_
  obtain ⟨b11, hb12, hf⟩ := zb1_sp hf
  have hX6 : ∀ t, t = b11 → zu3 (fun (x17 : Int32) (x18 : Int32) (x19 : Int32) => zV κ G 67 [(8, .int x17), (7, .int (86 : Int32)), (6, .ref (G.1 23)), (5, .int x18), (4, .int x19)] [] M2 F) t := by
    intro t ht
    subst ht
    obtain ⟨x17, x18, x19⟩ := t
    show zV κ G 67 [(8, .int x17), (7, .int (86 : Int32)), (6, .ref (G.1 23)), (5, .int x18), (4, .int x19)] [] M2 F
    refine z_iload X dX3_sharpness_67 4 rfl ?_
    refine z_iload X dX3_sharpness_69 3 rfl ?_
    refine z_iload X dX3_sharpness_71 3 rfl ?_
    refine z_imul X dX3_sharpness_73 ?_
    refine z_iadd X dX3_sharpness_74 ?_
    exact z_iret X (zR_iM hf Z) dX3_sharpness_75
  refine zlp_walk (P := zu3 (fun (x3 : Int32) (x4 : Int32) (x5 : Int32) => zV κ G 27 [(8, .int x3), (7, .int (86 : Int32)), (6, .ref (G.1 23)), (5, .int x4), (4, .int x5)] [] M2 F)) (fun a20 w10 hf hi8 hx9 => ?_) _ _ hb12
  obtain ⟨x3, x4, x5⟩ := a20
  show zV κ G 27 [(8, .int x3), (7, .int (86 : Int32)), (6, .ref (G.1 23)), (5, .int x4), (4, .int x5)] [] M2 F
  replace hf : fX3_sharpness_L27 M2 x3 x4 x5 = some w10 := hf
  unfold fX3_sharpness_L27 at hf
  refine z_iload X dX3_sharpness_27 0 rfl ?_
  refine z_iload X dX3_sharpness_29 1 rfl ?_
  refine z_icmp_ge (tgt := 67) X dX3_sharpness_31 (by decide) (fun h16 => ?_) (fun h16 => ?_)
  · have hf := zt h16 hf
    have hq := hX6 _ (hx9 _ (Option.some.inj hf).symm)
    exact hq
  · have hf := zf h16 hf
    refine z_aload X dX3_sharpness_34 2 rfl ?_
    refine z_iload X dX3_sharpness_36 0 rfl ?_
    obtain ⟨h13, hf⟩ := zc_sp hf
    refine z_iald X zc_23 zl_23 (zin_sp h13) dX3_sharpness_38 ?_
    refine z_nmI hf (fun x14 hf => ?_)
    refine z_istore (lv' := [(9, .int x14), (8, .int x3), (7, .int (86 : Int32)), (6, .ref (G.1 23)), (5, .int x4), (4, .int x5)]) X dX3_sharpness_39 hm (by decide) rfl ?_
    refine z_iload X dX3_sharpness_41 5 rfl ?_
    refine z_iload X dX3_sharpness_43 0 rfl ?_
    refine z_iload X dX3_sharpness_45 4 rfl ?_
    refine z_isub X dX3_sharpness_47 ?_
    refine z_iload X dX3_sharpness_48 0 rfl ?_
    refine z_iload X dX3_sharpness_50 4 rfl ?_
    refine z_isub X dX3_sharpness_52 ?_
    refine z_imul X dX3_sharpness_53 ?_
    refine z_iadd X dX3_sharpness_54 ?_
    refine z_nmI hf (fun x15 hf => ?_)
    refine z_istore (lv' := [(4, .int x15), (9, .int x14), (8, .int x3), (7, .int (86 : Int32)), (6, .ref (G.1 23)), (5, .int x4)]) X dX3_sharpness_55 hm (by decide) rfl ?_
    refine z_iload X dX3_sharpness_57 1 rfl ?_
    refine z_istore (lv' := [(5, .int x14), (4, .int x15), (9, .int x14), (8, .int x3), (7, .int (86 : Int32)), (6, .ref (G.1 23))]) X dX3_sharpness_59 hm (by decide) rfl ?_
    refine z_iinc (lv' := [(8, .int (x3 + (1 : Int32))), (5, .int x14), (4, .int x15), (9, .int x14), (7, .int (86 : Int32)), (6, .ref (G.1 23))]) (v := x3 + (1 : Int32)) X dX3_sharpness_61 (j := 3) rfl rfl hm (by decide) rfl ?_
    refine z_goto (tgt := 27) X dX3_sharpness_64 (by decide) ?_
    refine z_sub [0, 4, 5, 1, 2] rfl ?_
    have hq := hi8 _ (Option.some.inj hf).symm
    exact hq
set_option maxHeartbeats 4000000 in
set_option maxRecDepth 100000 in
theorem mtX3_begin (l : Launch) (D : va_G) (G : zG) {M : zMem} {F : Int64} {Mo : zMem} (hf : fX3_begin M = some Mo) : zCM l yX3_begin wX3_begin { frames := 0, cells := 0, slots := 0, locals := 0 } D G [.ref (G.1 22)] M F none Mo F := by
  refine zCM.ofV (own := RX3) (cc := cX3_begin) (maxL := 2) (ret := none) (lv := [(0, .ref (G.1 22))]) (by decide) rfl rfl (Nat.le_of_ble_eq_true rfl) rfl (fun κ X Z hm hκ1 hκ2 => ?_)
  subst hκ1 hκ2
  unfold fX3_begin at hf
  refine z_aload_n X dX3_begin_0 rfl 0 rfl ?_
  refine z_iconst (v := (0 : Int32)) X dX3_begin_1 (by decide) ?_
  refine pf_X3_22 X dX3_begin_2 ?_
  refine z_nmM hf (fun M1 hf => ?_)
  refine z_iconst (v := (0 : Int32)) X dX3_begin_5 (by decide) ?_
  refine z_istore_n (lv' := [(1, .int (0 : Int32)), (0, .ref (G.1 22))]) X dX3_begin_6 rfl hm (by decide) rfl ?_
  obtain ⟨b9, hb10, hf⟩ := zb1_sp hf
  have hX4 : ∀ t, t = b9 → zu2 (fun (x14 : Int32) (M15 : zMem) => zV κ G 29 [(1, .int x14), (0, .ref (G.1 22))] [] M15 F) t := by
    intro t ht
    subst ht
    obtain ⟨x14, M15⟩ := t
    show zV κ G 29 [(1, .int x14), (0, .ref (G.1 22))] [] M15 F
    exact z_vret X (zR_M hf Z) dX3_begin_29
  refine zlp_walk (P := zu2 (fun (x2 : Int32) (M3 : zMem) => zV κ G 7 [(1, .int x2), (0, .ref (G.1 22))] [] M3 F)) (fun a16 w8 hf hi6 hx7 => ?_) _ _ hb10
  obtain ⟨x2, M3⟩ := a16
  show zV κ G 7 [(1, .int x2), (0, .ref (G.1 22))] [] M3 F
  replace hf : fX3_begin_L7 x2 M3 = some w8 := hf
  unfold fX3_begin_L7 at hf
  refine z_iload_n X dX3_begin_7 rfl 0 rfl ?_
  refine z_aload_n X dX3_begin_8 rfl 1 rfl ?_
  refine gf_X3_18 X dX3_begin_9 ?_
  refine z_alen (v := (33 : Int32)) X zc_25 zl_25 ⟨_, rfl⟩ (by decide) dX3_begin_12 ?_
  refine z_icmp_ge (tgt := 29) X dX3_begin_13 (by decide) (fun h13 => ?_) (fun h13 => ?_)
  · have hf := zt h13 hf
    have hq := hX4 _ (hx7 _ (Option.some.inj hf).symm)
    exact hq
  · have hf := zf h13 hf
    refine z_aload_n X dX3_begin_16 rfl 1 rfl ?_
    refine gf_X3_18 X dX3_begin_17 ?_
    refine z_iload_n X dX3_begin_20 rfl 0 rfl ?_
    refine z_iconst (v := (0 : Int32)) X dX3_begin_21 (by decide) ?_
    obtain ⟨h11, hf⟩ := zc_sp hf
    refine z_zast X zc_25 zl_25 (zin_sp h11) dX3_begin_22 ?_
    refine z_nmM hf (fun M12 hf => ?_)
    refine z_iinc (lv' := [(1, .int (x2 + (1 : Int32))), (0, .ref (G.1 22))]) (v := x2 + (1 : Int32)) X dX3_begin_23 (j := 0) rfl rfl hm (by decide) rfl ?_
    refine z_goto (tgt := 7) X dX3_begin_26 (by decide) ?_
    have hq := hi6 _ (Option.some.inj hf).symm
    exact hq
set_option maxHeartbeats 4000000 in
set_option maxRecDepth 100000 in
theorem mtX6_isShear (l : Launch) (D : va_G) (G : zG) {p0 : Int32} {M : zMem} {F : Int64} {ro : Int32} (hf : fX6_isShear p0 = some ro) : zCM l yX6_isShear wX6_isShear { frames := 0, cells := 0, slots := 0, locals := 0 } D G [.int p0] M F (some (.int ro)) M F := by
  refine zCM.ofV (own := RX6) (cc := cX6_isShear) (maxL := 1) (ret := (some .boolean)) (lv := [(0, .int p0)]) (by decide) rfl rfl (Nat.le_of_ble_eq_true rfl) rfl (fun κ X Z hm hκ1 hκ2 => ?_)
  subst hκ1 hκ2
  unfold fX6_isShear at hf
  refine z_iload_n X dX6_isShear_0 rfl 0 rfl ?_
  refine z_bipush (v := (-16 : Int32)) X dX6_isShear_1 (by decide) ?_
  have hj : zV κ G 17 [(0, .int p0)] [.int (if p0 < (-16 : Int32) then (0 : Int32) else (if (16 : Int32) < p0 then (0 : Int32) else (1 : Int32)))] M F := by
    exact z_zret X (z01_ite (Or.inl rfl) (z01_ite (Or.inl rfl) (Or.inr rfl))) (zR_i hf Z) dX6_isShear_17
  refine z_icmp_lt (tgt := 16) X dX6_isShear_3 (by decide) (fun h1 => ?_) (fun h1 => ?_)
  · try simp only [if_pos h1] at hj
    refine z_iconst (v := (0 : Int32)) X dX6_isShear_16 (by decide) ?_
    exact hj
  · try simp only [if_neg h1] at hj
    refine z_iload_n X dX6_isShear_6 rfl 0 rfl ?_
    refine z_bipush (v := (16 : Int32)) X dX6_isShear_7 (by decide) ?_
    refine z_icmp_gt (tgt := 16) X dX6_isShear_9 (by decide) (fun h2 => ?_) (fun h2 => ?_)
    · try simp only [if_pos h2] at hj
      refine z_iconst (v := (0 : Int32)) X dX6_isShear_16 (by decide) ?_
      exact hj
    · try simp only [if_neg h2] at hj
      refine z_iconst (v := (1 : Int32)) X dX6_isShear_12 (by decide) ?_
      refine z_goto (tgt := 17) X dX6_isShear_13 (by decide) ?_
      exact hj
set_option maxHeartbeats 4000000 in
set_option maxRecDepth 100000 in
theorem mtX3_isBetter (l : Launch) (D : va_G) (G : zG) {p1 : Int32} {p2 : Int32} {M : zMem} {F : Int64} {ro : Int32} (hf : fX3_isBetter p1 p2 M = some ro) : zCM l yX3_isBetter wX3_isBetter { frames := 1, cells := 0, slots := 0, locals := 24 } D G [.ref (G.1 22), .int p1, .int p2] M F (some (.int ro)) M F := by
  refine zCM.ofV (own := RX3) (cc := cX3_isBetter) (maxL := 3) (ret := (some .boolean)) (lv := [(0, .ref (G.1 22)), (1, .int p1), (2, .int p2)]) (by decide) rfl rfl (Nat.le_of_ble_eq_true rfl) rfl (fun κ X Z hm hκ1 hκ2 => ?_)
  subst hκ1 hκ2
  unfold fX3_isBetter at hf
  refine z_iload_n X dX3_isBetter_0 rfl 1 rfl ?_
  refine z_aload_n X dX3_isBetter_1 rfl 0 rfl ?_
  refine gf_X3_29 X dX3_isBetter_2 ?_
  refine z_icmp_eq (tgt := 22) X dX3_isBetter_5 (by decide) (fun h5 => ?_) (fun h5 => ?_)
  · have hf := zt h5 hf
    refine z_iload_n X dX3_isBetter_22 rfl 2 rfl ?_
    refine z_mabs X (List.mem_cons_of_mem _ zw_19_22) (List.mem_cons_of_mem _ zw_19_23) (List.mem_cons_of_mem _ zw_6_4) (List.mem_cons_of_mem _ zw_20_0) (Nat.le_of_ble_eq_true rfl) (Nat.le_of_ble_eq_true rfl) dX3_isBetter_23 ?_
    refine z_aload_n X dX3_isBetter_26 rfl 0 rfl ?_
    refine gf_X3_26 X dX3_isBetter_27 ?_
    refine z_mabs X (List.mem_cons_of_mem _ zw_19_22) (List.mem_cons_of_mem _ zw_19_23) (List.mem_cons_of_mem _ zw_6_4) (List.mem_cons_of_mem _ zw_20_0) (Nat.le_of_ble_eq_true rfl) (Nat.le_of_ble_eq_true rfl) dX3_isBetter_30 ?_
    refine z_icmp_eq (tgt := 56) X dX3_isBetter_33 (by decide) (fun h3 => ?_) (fun h3 => ?_)
    · have hf := zt h3 hf
      refine z_iload_n X dX3_isBetter_56 rfl 2 rfl ?_
      refine z_aload_n X dX3_isBetter_57 rfl 0 rfl ?_
      refine gf_X3_26 X dX3_isBetter_58 ?_
      have hj : zV κ G 69 [(0, .ref (G.1 22)), (1, .int p1), (2, .int p2)] [.int (if (M 22 4) ≤ p2 then (0 : Int32) else (1 : Int32))] M F := by
        exact z_zret X (z01_ite (Or.inl rfl) (Or.inr rfl)) (zR_i hf Z) dX3_isBetter_69
      refine z_icmp_ge (tgt := 68) X dX3_isBetter_61 (by decide) (fun h1 => ?_) (fun h1 => ?_)
      · try simp only [if_pos h1] at hj
        refine z_iconst (v := (0 : Int32)) X dX3_isBetter_68 (by decide) ?_
        exact hj
      · try simp only [if_neg h1] at hj
        refine z_iconst (v := (1 : Int32)) X dX3_isBetter_64 (by decide) ?_
        refine z_goto (tgt := 69) X dX3_isBetter_65 (by decide) ?_
        exact hj
    · have hf := zf h3 hf
      refine z_iload_n X dX3_isBetter_36 rfl 2 rfl ?_
      refine z_mabs X (List.mem_cons_of_mem _ zw_19_22) (List.mem_cons_of_mem _ zw_19_23) (List.mem_cons_of_mem _ zw_6_4) (List.mem_cons_of_mem _ zw_20_0) (Nat.le_of_ble_eq_true rfl) (Nat.le_of_ble_eq_true rfl) dX3_isBetter_37 ?_
      refine z_aload_n X dX3_isBetter_40 rfl 0 rfl ?_
      refine gf_X3_26 X dX3_isBetter_41 ?_
      refine z_mabs X (List.mem_cons_of_mem _ zw_19_22) (List.mem_cons_of_mem _ zw_19_23) (List.mem_cons_of_mem _ zw_6_4) (List.mem_cons_of_mem _ zw_20_0) (Nat.le_of_ble_eq_true rfl) (Nat.le_of_ble_eq_true rfl) dX3_isBetter_44 ?_
      have hj : zV κ G 55 [(0, .ref (G.1 22)), (1, .int p1), (2, .int p2)] [.int (if (zmabs (M 22 4)) ≤ (zmabs p2) then (0 : Int32) else (1 : Int32))] M F := by
        exact z_zret X (z01_ite (Or.inl rfl) (Or.inr rfl)) (zR_i hf Z) dX3_isBetter_55
      refine z_icmp_ge (tgt := 54) X dX3_isBetter_47 (by decide) (fun h2 => ?_) (fun h2 => ?_)
      · try simp only [if_pos h2] at hj
        refine z_iconst (v := (0 : Int32)) X dX3_isBetter_54 (by decide) ?_
        exact hj
      · try simp only [if_neg h2] at hj
        refine z_iconst (v := (1 : Int32)) X dX3_isBetter_50 (by decide) ?_
        refine z_goto (tgt := 55) X dX3_isBetter_51 (by decide) ?_
        exact hj
  · have hf := zf h5 hf
    refine z_iload_n X dX3_isBetter_8 rfl 1 rfl ?_
    refine z_aload_n X dX3_isBetter_9 rfl 0 rfl ?_
    refine gf_X3_29 X dX3_isBetter_10 ?_
    have hj : zV κ G 21 [(0, .ref (G.1 22)), (1, .int p1), (2, .int p2)] [.int (if p1 ≤ (M 22 5) then (0 : Int32) else (1 : Int32))] M F := by
      exact z_zret X (z01_ite (Or.inl rfl) (Or.inr rfl)) (zR_i hf Z) dX3_isBetter_21
    refine z_icmp_le (tgt := 20) X dX3_isBetter_13 (by decide) (fun h4 => ?_) (fun h4 => ?_)
    · try simp only [if_pos h4] at hj
      refine z_iconst (v := (0 : Int32)) X dX3_isBetter_20 (by decide) ?_
      exact hj
    · try simp only [if_neg h4] at hj
      refine z_iconst (v := (1 : Int32)) X dX3_isBetter_16 (by decide) ?_
      refine z_goto (tgt := 21) X dX3_isBetter_17 (by decide) ?_
      exact hj
set_option maxHeartbeats 4000000 in
set_option maxRecDepth 100000 in
theorem mtX3_attemptAt (l : Launch) (D : va_G) (G : zG) {p2 : Int32} {p3 : Int32} {M : zMem} {F : Int64} {Mo : zMem} (hf : fX3_attemptAt p2 p3 M = some Mo) : zCM l yX3_attemptAt wX3_attemptAt { frames := 4, cells := 0, slots := 0, locals := 100 } D G [.ref (G.1 22), .ref (G.1 1), .int p2, .int p3] M F none Mo F := by
  refine zCM.ofV (own := RX3) (cc := cX3_attemptAt) (maxL := 5) (ret := none) (lv := [(0, .ref (G.1 22)), (1, .ref (G.1 1)), (2, .int p2), (3, .int p3)]) (by decide) rfl rfl (Nat.le_of_ble_eq_true rfl) rfl (fun κ X Z hm hκ1 hκ2 => ?_)
  subst hκ1 hκ2
  unfold fX3_attemptAt at hf
  refine z_iload_n X dX3_attemptAt_0 rfl 3 rfl ?_
  obtain ⟨r2, h1, hf⟩ := zb1_sp hf
  refine gc_X3_42 (st := []) X (mtX6_isShear κ.2.1 κ.2.2.2.2.2.2.2.2.2.2.1 G  h1) rfl rfl (Nat.le_of_ble_eq_true rfl) (Nat.le_of_ble_eq_true rfl) (Nat.le_of_ble_eq_true rfl) dX3_attemptAt_1 ?_
  refine z_if_eq (tgt := 31) X dX3_attemptAt_4 (by decide) (fun h25 => ?_) (fun h25 => ?_)
  · have hf := zt h25 hf
    exact z_vret X (zR_M hf Z) dX3_attemptAt_31
  · have hf := zf h25 hf
    refine z_aload_n X dX3_attemptAt_7 rfl 0 rfl ?_
    refine gf_X3_18 X dX3_attemptAt_8 ?_
    refine z_iload_n X dX3_attemptAt_11 rfl 3 rfl ?_
    refine z_bipush (v := (16 : Int32)) X dX3_attemptAt_12 (by decide) ?_
    refine z_iadd X dX3_attemptAt_14 ?_
    obtain ⟨h3, hf⟩ := zc_sp hf
    refine z_zald X zc_25 zl_25 (zin_sp h3) dX3_attemptAt_15 ?_
    refine z_if_ne (tgt := 31) X dX3_attemptAt_16 (by decide) (fun h24 => ?_) (fun h24 => ?_)
    · have hf := zf h24 hf
      exact z_vret X (zR_M hf Z) dX3_attemptAt_31
    · have hf := zt h24 hf
      refine z_aload_n X dX3_attemptAt_19 rfl 0 rfl ?_
      refine gf_X3_22 X dX3_attemptAt_20 ?_
      refine z_aload_n X dX3_attemptAt_23 rfl 0 rfl ?_
      refine gf_X3_15 X dX3_attemptAt_24 ?_
      refine z_alen (v := (33 : Int32)) X zc_24 zl_24 ⟨_, rfl⟩ (by decide) dX3_attemptAt_27 ?_
      refine z_icmp_lt (tgt := 32) X dX3_attemptAt_28 (by decide) (fun h23 => ?_) (fun h23 => ?_)
      · have hf := zt h23 hf
        refine z_aload_n X dX3_attemptAt_32 rfl 0 rfl ?_
        refine z_aload_n X dX3_attemptAt_33 rfl 1 rfl ?_
        refine z_iload_n X dX3_attemptAt_34 rfl 2 rfl ?_
        refine z_iload_n X dX3_attemptAt_35 rfl 3 rfl ?_
        obtain ⟨r5, M6, h4, hf⟩ := zb2_sp hf
        refine gc_X3_46 (st := []) X (mtX3_sharpness κ.2.1 κ.2.2.2.2.2.2.2.2.2.2.1 G  h4) rfl rfl (Nat.le_of_ble_eq_true rfl) (Nat.le_of_ble_eq_true rfl) (Nat.le_of_ble_eq_true rfl) dX3_attemptAt_36 ?_
        refine z_istore (lv' := [(4, .int r5), (0, .ref (G.1 22)), (1, .ref (G.1 1)), (2, .int p2), (3, .int p3)]) X dX3_attemptAt_39 hm (by decide) rfl ?_
        refine z_aload_n X dX3_attemptAt_41 rfl 1 rfl ?_
        refine gf_X3_22 X dX3_attemptAt_42 ?_
        obtain ⟨k8, k8e, hf⟩ := zj_sp hf
        have hj9 : ∀ (M7 : zMem), k8 M7 = some Mo → zV κ G 69 [(4, .int r5), (0, .ref (G.1 22)), (1, .ref (G.1 1)), (2, .int p2), (3, .int p3)] [] M7 F := by
          intro M7 hf
          rw [k8e] at hf
          refine z_aload_n X dX3_attemptAt_69 rfl 1 rfl ?_
          refine gf_X3_18 X dX3_attemptAt_70 ?_
          refine z_iload_n X dX3_attemptAt_73 rfl 4 rfl ?_
          refine z_bipush (v := (16 : Int32)) X dX3_attemptAt_74 (by decide) ?_
          refine z_iadd X dX3_attemptAt_76 ?_
          refine z_iconst (v := (1 : Int32)) X dX3_attemptAt_77 (by decide) ?_
          obtain ⟨h18, hf⟩ := zc_sp hf
          refine z_zast X zc_25 zl_25 (zin_sp h18) dX3_attemptAt_78 ?_
          refine z_nmM hf (fun M19 hf => ?_)
          refine z_aload_n X dX3_attemptAt_79 rfl 1 rfl ?_
          refine gf_X3_15 X dX3_attemptAt_80 ?_
          refine z_aload_n X dX3_attemptAt_83 rfl 1 rfl ?_
          refine gf_X3_22 X dX3_attemptAt_84 ?_
          refine z_iload_n X dX3_attemptAt_87 rfl 4 rfl ?_
          obtain ⟨h20, hf⟩ := zc_sp hf
          refine z_iast X zc_24 zl_24 (zin_sp h20) dX3_attemptAt_88 ?_
          refine z_nmM hf (fun M21 hf => ?_)
          refine z_aload_n X dX3_attemptAt_89 rfl 1 rfl ?_
          refine z_dup X dX3_attemptAt_90 rfl ?_
          refine gf_X3_22 X dX3_attemptAt_91 ?_
          refine z_iconst (v := (1 : Int32)) X dX3_attemptAt_94 (by decide) ?_
          refine z_iadd X dX3_attemptAt_95 ?_
          refine pf_X3_22 X dX3_attemptAt_96 ?_
          refine z_nmM hf (fun M22 hf => ?_)
          exact z_vret X (zR_M hf Z) dX3_attemptAt_99
        clear k8e
        refine z_if_eq (tgt := 58) X dX3_attemptAt_45 (by decide) (fun h17 => ?_) (fun h17 => ?_)
        · have hf := zt h17 hf
          refine z_aload_n X dX3_attemptAt_58 rfl 1 rfl ?_
          refine z_iload X dX3_attemptAt_59 0 rfl ?_
          refine pf_X3_29 X dX3_attemptAt_61 ?_
          refine z_nmM hf (fun M10 hf => ?_)
          refine z_aload_n X dX3_attemptAt_64 rfl 1 rfl ?_
          refine z_iload_n X dX3_attemptAt_65 rfl 4 rfl ?_
          refine pf_X3_26 X dX3_attemptAt_66 ?_
          refine z_nmM hf (fun M11 hf => ?_)
          exact hj9 M11 hf
        · have hf := zf h17 hf
          refine z_aload_n X dX3_attemptAt_48 rfl 1 rfl ?_
          refine z_iload X dX3_attemptAt_49 0 rfl ?_
          refine z_iload_n X dX3_attemptAt_51 rfl 4 rfl ?_
          obtain ⟨r13, h12, hf⟩ := zb1_sp hf
          refine gc_X3_50 (st := []) X (mtX3_isBetter κ.2.1 κ.2.2.2.2.2.2.2.2.2.2.1 G  h12) rfl rfl (Nat.le_of_ble_eq_true rfl) (Nat.le_of_ble_eq_true rfl) (Nat.le_of_ble_eq_true rfl) dX3_attemptAt_52 ?_
          refine z_if_eq (tgt := 69) X dX3_attemptAt_55 (by decide) (fun h16 => ?_) (fun h16 => ?_)
          · have hf := zt h16 hf
            exact hj9 M6 hf
          · have hf := zf h16 hf
            refine z_aload_n X dX3_attemptAt_58 rfl 1 rfl ?_
            refine z_iload X dX3_attemptAt_59 0 rfl ?_
            refine pf_X3_29 X dX3_attemptAt_61 ?_
            refine z_nmM hf (fun M14 hf => ?_)
            refine z_aload_n X dX3_attemptAt_64 rfl 1 rfl ?_
            refine z_iload_n X dX3_attemptAt_65 rfl 4 rfl ?_
            refine pf_X3_26 X dX3_attemptAt_66 ?_
            refine z_nmM hf (fun M15 hf => ?_)
            exact hj9 M15 hf
      · have hf := zf h23 hf
        exact z_vret X (zR_M hf Z) dX3_attemptAt_31
set_option maxHeartbeats 4000000 in
set_option maxRecDepth 100000 in
theorem mtX3_tryAll (l : Launch) (D : va_G) (G : zG) {p2 : Int32} {M : zMem} {F : Int64} {Mo : zMem} (hf : fX3_tryAll p2 M = some Mo) : zCM l yX3_tryAll wX3_tryAll { frames := 5, cells := 0, slots := 0, locals := 124 } D G [.ref (G.1 22), .ref (G.1 1), .int p2] M F none Mo F := by
  refine zCM.ofV (own := RX3) (cc := cX3_tryAll) (maxL := 4) (ret := none) (lv := [(0, .ref (G.1 22)), (1, .ref (G.1 1)), (2, .int p2)]) (by decide) rfl rfl (Nat.le_of_ble_eq_true rfl) rfl (fun κ X Z hm hκ1 hκ2 => ?_)
  subst hκ1 hκ2
  unfold fX3_tryAll at hf
  refine z_aload_n X dX3_tryAll_0 rfl 0 rfl ?_
  obtain ⟨M2, h1, hf⟩ := zb1_sp hf
  refine gc_X3_36 (st := []) X (mtX3_begin κ.2.1 κ.2.2.2.2.2.2.2.2.2.2.1 G  h1) rfl rfl (Nat.le_of_ble_eq_true rfl) (Nat.le_of_ble_eq_true rfl) (Nat.le_of_ble_eq_true rfl) dX3_tryAll_1 ?_
  refine z_bipush (v := (-16 : Int32)) X dX3_tryAll_4 (by decide) ?_
  refine z_istore_n (lv' := [(3, .int (-16 : Int32)), (0, .ref (G.1 22)), (1, .ref (G.1 1)), (2, .int p2)]) X dX3_tryAll_6 rfl hm (by decide) rfl ?_
  obtain ⟨b10, hb11, hf⟩ := zb1_sp hf
  have hX5 : ∀ t, t = b10 → zu2 (fun (x15 : Int32) (M16 : zMem) => zV κ G 26 [(3, .int x15), (0, .ref (G.1 22)), (1, .ref (G.1 1)), (2, .int p2)] [] M16 F) t := by
    intro t ht
    subst ht
    obtain ⟨x15, M16⟩ := t
    show zV κ G 26 [(3, .int x15), (0, .ref (G.1 22)), (1, .ref (G.1 1)), (2, .int p2)] [] M16 F
    exact z_vret X (zR_M hf Z) dX3_tryAll_26
  refine zlp_walk (P := zu2 (fun (x3 : Int32) (M4 : zMem) => zV κ G 7 [(3, .int x3), (0, .ref (G.1 22)), (1, .ref (G.1 1)), (2, .int p2)] [] M4 F)) (fun a17 w9 hf hi7 hx8 => ?_) _ _ hb11
  obtain ⟨x3, M4⟩ := a17
  show zV κ G 7 [(3, .int x3), (0, .ref (G.1 22)), (1, .ref (G.1 1)), (2, .int p2)] [] M4 F
  replace hf : fX3_tryAll_L7 p2 x3 M4 = some w9 := hf
  unfold fX3_tryAll_L7 at hf
  refine z_iload_n X dX3_tryAll_7 rfl 0 rfl ?_
  refine z_bipush (v := (16 : Int32)) X dX3_tryAll_8 (by decide) ?_
  refine z_icmp_gt (tgt := 26) X dX3_tryAll_10 (by decide) (fun h14 => ?_) (fun h14 => ?_)
  · have hf := zt h14 hf
    have hq := hX5 _ (hx8 _ (Option.some.inj hf).symm)
    exact hq
  · have hf := zf h14 hf
    refine z_aload_n X dX3_tryAll_13 rfl 1 rfl ?_
    refine z_aload_n X dX3_tryAll_14 rfl 2 rfl ?_
    refine z_iload_n X dX3_tryAll_15 rfl 3 rfl ?_
    refine z_iload_n X dX3_tryAll_16 rfl 0 rfl ?_
    obtain ⟨M13, h12, hf⟩ := zb1_sp hf
    refine gc_X3_39 (st := []) X (mtX3_attemptAt κ.2.1 κ.2.2.2.2.2.2.2.2.2.2.1 G  h12) rfl rfl (Nat.le_of_ble_eq_true rfl) (Nat.le_of_ble_eq_true rfl) (Nat.le_of_ble_eq_true rfl) dX3_tryAll_17 ?_
    refine z_iinc (lv' := [(3, .int (x3 + (1 : Int32))), (0, .ref (G.1 22)), (1, .ref (G.1 1)), (2, .int p2)]) (v := x3 + (1 : Int32)) X dX3_tryAll_20 (j := 0) rfl rfl hm (by decide) rfl ?_
    refine z_goto (tgt := 7) X dX3_tryAll_23 (by decide) ?_
    have hq := hi7 _ (Option.some.inj hf).symm
    exact hq
set_option maxHeartbeats 4000000 in
set_option maxRecDepth 100000 in
theorem mtX3_search (l : Launch) (D : va_G) (G : zG) {p2 : Int32} {M : zMem} {F : Int64} {Mo : zMem} (hf : fX3_search p2 M = some Mo) : zCM l yX3_search wX3_search { frames := 5, cells := 0, slots := 0, locals := 124 } D G [.ref (G.1 22), .ref (G.1 1), .int p2] M F none Mo F := by
  refine zCM.ofV (own := RX3) (cc := cX3_search) (maxL := 5) (ret := none) (lv := [(0, .ref (G.1 22)), (1, .ref (G.1 1)), (2, .int p2)]) (by decide) rfl rfl (Nat.le_of_ble_eq_true rfl) rfl (fun κ X Z hm hκ1 hκ2 => ?_)
  subst hκ1 hκ2
  unfold fX3_search at hf
  refine z_aload_n X dX3_search_0 rfl 0 rfl ?_
  obtain ⟨M2, h1, hf⟩ := zb1_sp hf
  refine gc_X3_36 (st := []) X (mtX3_begin κ.2.1 κ.2.2.2.2.2.2.2.2.2.2.1 G  h1) rfl rfl (Nat.le_of_ble_eq_true rfl) (Nat.le_of_ble_eq_true rfl) (Nat.le_of_ble_eq_true rfl) dX3_search_1 ?_
  refine z_bipush (v := (-16 : Int32)) X dX3_search_4 (by decide) ?_
  refine z_istore_n (lv' := [(3, .int (-16 : Int32)), (0, .ref (G.1 22)), (1, .ref (G.1 1)), (2, .int p2)]) X dX3_search_6 rfl hm (by decide) rfl ?_
  obtain ⟨b10, hb11, hf⟩ := zb1_sp hf
  have hX5 : ∀ t, t = b10 → zu2 (fun (x15 : Int32) (M16 : zMem) => zV κ G 26 [(3, .int x15), (0, .ref (G.1 22)), (1, .ref (G.1 1)), (2, .int p2)] [] M16 F) t := by
    intro t ht
    subst ht
    obtain ⟨x15, M16⟩ := t
    show zV κ G 26 [(3, .int x15), (0, .ref (G.1 22)), (1, .ref (G.1 1)), (2, .int p2)] [] M16 F
    refine z_iconst (v := (4 : Int32)) X dX3_search_26 (by decide) ?_
    refine z_istore_n (lv' := [(3, .int (4 : Int32)), (0, .ref (G.1 22)), (1, .ref (G.1 1)), (2, .int p2)]) X dX3_search_27 rfl hm (by decide) rfl ?_
    obtain ⟨b24, hb25, hf⟩ := zb1_sp hf
    have hX19 : ∀ t, t = b24 → zu2 (fun (x33 : Int32) (M34 : zMem) => zV κ G 66 [(3, .int x33), (0, .ref (G.1 22)), (1, .ref (G.1 1)), (2, .int p2)] [] M34 F) t := by
      intro t ht
      subst ht
      obtain ⟨x33, M34⟩ := t
      show zV κ G 66 [(3, .int x33), (0, .ref (G.1 22)), (1, .ref (G.1 1)), (2, .int p2)] [] M34 F
      exact z_vret X (zR_M hf Z) dX3_search_66
    refine zlp_walk (P := zu2 (fun (x17 : Int32) (M18 : zMem) => zV κ G 28 [(3, .int x17), (0, .ref (G.1 22)), (1, .ref (G.1 1)), (2, .int p2)] [] M18 F)) (fun a35 w23 hf hi21 hx22 => ?_) _ _ hb25
    obtain ⟨x17, M18⟩ := a35
    show zV κ G 28 [(3, .int x17), (0, .ref (G.1 22)), (1, .ref (G.1 1)), (2, .int p2)] [] M18 F
    replace hf : fX3_search_L28 p2 x17 M18 = some w23 := hf
    unfold fX3_search_L28 at hf
    refine z_iload_n X dX3_search_28 rfl 0 rfl ?_
    refine z_iconst (v := (1 : Int32)) X dX3_search_29 (by decide) ?_
    refine z_icmp_lt (tgt := 66) X dX3_search_30 (by decide) (fun h32 => ?_) (fun h32 => ?_)
    · have hf := zt h32 hf
      have hq := hX19 _ (hx22 _ (Option.some.inj hf).symm)
      exact hq
    · have hf := zf h32 hf
      refine z_aload_n X dX3_search_33 rfl 1 rfl ?_
      refine gf_X3_26 X dX3_search_34 ?_
      refine z_nmI hf (fun x26 hf => ?_)
      refine z_istore (lv' := [(4, .int x26), (3, .int x17), (0, .ref (G.1 22)), (1, .ref (G.1 1)), (2, .int p2)]) X dX3_search_37 hm (by decide) rfl ?_
      refine z_aload_n X dX3_search_39 rfl 2 rfl ?_
      refine z_aload_n X dX3_search_40 rfl 3 rfl ?_
      refine z_iload_n X dX3_search_41 rfl 4 rfl ?_
      refine z_iload X dX3_search_42 0 rfl ?_
      refine z_iload_n X dX3_search_44 rfl 1 rfl ?_
      refine z_isub X dX3_search_45 ?_
      obtain ⟨M28, h27, hf⟩ := zb1_sp hf
      refine gc_X3_39 (st := []) X (mtX3_attemptAt κ.2.1 κ.2.2.2.2.2.2.2.2.2.2.1 G  h27) rfl rfl (Nat.le_of_ble_eq_true rfl) (Nat.le_of_ble_eq_true rfl) (Nat.le_of_ble_eq_true rfl) dX3_search_46 ?_
      refine z_aload_n X dX3_search_49 rfl 2 rfl ?_
      refine z_aload_n X dX3_search_50 rfl 3 rfl ?_
      refine z_iload_n X dX3_search_51 rfl 4 rfl ?_
      refine z_iload X dX3_search_52 0 rfl ?_
      refine z_iload_n X dX3_search_54 rfl 1 rfl ?_
      refine z_iadd X dX3_search_55 ?_
      obtain ⟨M30, h29, hf⟩ := zb1_sp hf
      refine gc_X3_39 (st := []) X (mtX3_attemptAt κ.2.1 κ.2.2.2.2.2.2.2.2.2.2.1 G  h29) rfl rfl (Nat.le_of_ble_eq_true rfl) (Nat.le_of_ble_eq_true rfl) (Nat.le_of_ble_eq_true rfl) dX3_search_56 ?_
      refine z_iload_n X dX3_search_59 rfl 1 rfl ?_
      refine z_iconst (v := (2 : Int32)) X dX3_search_60 (by decide) ?_
      refine z_idiv X dX3_search_61 (by decide) ?_
      refine z_nmI hf (fun x31 hf => ?_)
      refine z_istore_n (lv' := [(3, .int x31), (4, .int x26), (0, .ref (G.1 22)), (1, .ref (G.1 1)), (2, .int p2)]) X dX3_search_62 rfl hm (by decide) rfl ?_
      refine z_goto (tgt := 28) X dX3_search_63 (by decide) ?_
      refine z_sub [0, 2, 3, 4] rfl ?_
      have hq := hi21 _ (Option.some.inj hf).symm
      exact hq
  refine zlp_walk (P := zu2 (fun (x3 : Int32) (M4 : zMem) => zV κ G 7 [(3, .int x3), (0, .ref (G.1 22)), (1, .ref (G.1 1)), (2, .int p2)] [] M4 F)) (fun a36 w9 hf hi7 hx8 => ?_) _ _ hb11
  obtain ⟨x3, M4⟩ := a36
  show zV κ G 7 [(3, .int x3), (0, .ref (G.1 22)), (1, .ref (G.1 1)), (2, .int p2)] [] M4 F
  replace hf : fX3_search_L7 p2 x3 M4 = some w9 := hf
  unfold fX3_search_L7 at hf
  refine z_iload_n X dX3_search_7 rfl 0 rfl ?_
  refine z_bipush (v := (16 : Int32)) X dX3_search_8 (by decide) ?_
  refine z_icmp_gt (tgt := 26) X dX3_search_10 (by decide) (fun h14 => ?_) (fun h14 => ?_)
  · have hf := zt h14 hf
    have hq := hX5 _ (hx8 _ (Option.some.inj hf).symm)
    exact hq
  · have hf := zf h14 hf
    refine z_aload_n X dX3_search_13 rfl 1 rfl ?_
    refine z_aload_n X dX3_search_14 rfl 2 rfl ?_
    refine z_iload_n X dX3_search_15 rfl 3 rfl ?_
    refine z_iload_n X dX3_search_16 rfl 0 rfl ?_
    obtain ⟨M13, h12, hf⟩ := zb1_sp hf
    refine gc_X3_39 (st := []) X (mtX3_attemptAt κ.2.1 κ.2.2.2.2.2.2.2.2.2.2.1 G  h12) rfl rfl (Nat.le_of_ble_eq_true rfl) (Nat.le_of_ble_eq_true rfl) (Nat.le_of_ble_eq_true rfl) dX3_search_17 ?_
    refine z_iinc (lv' := [(3, .int (x3 + (8 : Int32))), (0, .ref (G.1 22)), (1, .ref (G.1 1)), (2, .int p2)]) (v := x3 + (8 : Int32)) X dX3_search_20 (j := 0) rfl rfl hm (by decide) rfl ?_
    refine z_goto (tgt := 7) X dX3_search_23 (by decide) ?_
    have hq := hi7 _ (Option.some.inj hf).symm
    exact hq
set_option maxHeartbeats 4000000 in
set_option maxRecDepth 100000 in
theorem mtX4_inked (l : Launch) (D : va_G) (G : zG) {p1 : Int32} {p2 : Int32} {M : zMem} {F : Int64} {ro : Int32} (hf : fX4_inked p1 p2 M = some ro) : zCM l yX4_inked wX4_inked { frames := 2, cells := 0, slots := 0, locals := 42 } D G [.ref (G.1 1), .int p1, .int p2] M F (some (.int ro)) M F := by
  refine zCM.ofV (own := RX4) (cc := cX4_inked) (maxL := 3) (ret := (some .boolean)) (lv := [(0, .ref (G.1 1)), (1, .int p1), (2, .int p2)]) (by decide) rfl rfl (Nat.le_of_ble_eq_true rfl) rfl (fun κ X Z hm hκ1 hκ2 => ?_)
  subst hκ1 hκ2
  unfold fX4_inked at hf
  refine z_iload_n X dX4_inked_0 rfl 2 rfl ?_
  obtain ⟨r2, h1, hf⟩ := zb1_sp hf
  refine gc_X4_37 (st := []) X (mtX6_isRow κ.2.1 κ.2.2.2.2.2.2.2.2.2.2.1 G  h1) rfl rfl (Nat.le_of_ble_eq_true rfl) (Nat.le_of_ble_eq_true rfl) (Nat.le_of_ble_eq_true rfl) dX4_inked_1 ?_
  obtain ⟨k4, k4e, hf⟩ := zj_sp hf
  have hj5 : ∀ (x3 : Int32), k4 x3 = some ro → zV κ G 25 [(0, .ref (G.1 1)), (1, .int p1), (2, .int p2)] [.int x3] M F := by
    intro x3 hf
    rw [k4e] at hf
    obtain ⟨h10, hf⟩ := zc_sp hf
    exact z_zret X (z01_sp h10) (zR_i hf Z) dX4_inked_25
  clear k4e
  refine z_if_eq (tgt := 24) X dX4_inked_4 (by decide) (fun h9 => ?_) (fun h9 => ?_)
  · have hf := zt h9 hf
    refine z_iconst (v := (0 : Int32)) X dX4_inked_24 (by decide) ?_
    exact hj5 (0 : Int32) hf
  · have hf := zf h9 hf
    refine z_aload_n X dX4_inked_7 rfl 0 rfl ?_
    refine z_iload_n X dX4_inked_8 rfl 1 rfl ?_
    obtain ⟨r7, h6, hf⟩ := zb1_sp hf
    refine gc_X4_40 (st := []) X (mtX4_dots κ.2.1 κ.2.2.2.2.2.2.2.2.2.2.1 G  h6) rfl rfl (Nat.le_of_ble_eq_true rfl) (Nat.le_of_ble_eq_true rfl) (Nat.le_of_ble_eq_true rfl) dX4_inked_9 ?_
    refine z_iload_n X dX4_inked_12 rfl 2 rfl ?_
    refine z_iushr X dX4_inked_13 ?_
    refine z_iconst (v := (1 : Int32)) X dX4_inked_14 (by decide) ?_
    refine z_iand X dX4_inked_15 ?_
    refine z_iconst (v := (1 : Int32)) X dX4_inked_16 (by decide) ?_
    refine z_icmp_ne (tgt := 24) X dX4_inked_17 (by decide) (fun h8 => ?_) (fun h8 => ?_)
    · have hf := zf h8 hf
      refine z_iconst (v := (0 : Int32)) X dX4_inked_24 (by decide) ?_
      exact hj5 (0 : Int32) hf
    · have hf := zt h8 hf
      refine z_iconst (v := (1 : Int32)) X dX4_inked_20 (by decide) ?_
      refine z_goto (tgt := 25) X dX4_inked_21 (by decide) ?_
      exact hj5 (1 : Int32) hf
set_option maxHeartbeats 4000000 in
set_option maxRecDepth 100000 in
theorem mtX4_draw (l : Launch) (D : va_G) (G : zG) {p1 : Int32} {p2 : Int32} {p3 : Int32} {M : zMem} {F : Int64} {Mo : zMem} (hf : fX4_draw p1 p2 p3 M = some Mo) : zCM l yX4_draw wX4_draw { frames := 1, cells := 0, slots := 0, locals := 21 } D G [.ref (G.1 1), .int p1, .int p2, .int p3] M F none Mo F := by
  refine zCM.ofV (own := RX4) (cc := cX4_draw) (maxL := 5) (ret := none) (lv := [(0, .ref (G.1 1)), (1, .int p1), (2, .int p2), (3, .int p3)]) (by decide) rfl rfl (Nat.le_of_ble_eq_true rfl) rfl (fun κ X Z hm hκ1 hκ2 => ?_)
  subst hκ1 hκ2
  unfold fX4_draw at hf
  refine z_aload_n X dX4_draw_0 rfl 0 rfl ?_
  refine z_iload_n X dX4_draw_1 rfl 1 rfl ?_
  obtain ⟨r2, h1, hf⟩ := zb1_sp hf
  refine gc_X4_33 (st := []) X (mtX4_hasColumn κ.2.1 κ.2.2.2.2.2.2.2.2.2.2.1 G  h1) rfl rfl (Nat.le_of_ble_eq_true rfl) (Nat.le_of_ble_eq_true rfl) (Nat.le_of_ble_eq_true rfl) dX4_draw_2 ?_
  refine z_if_eq (tgt := 15) X dX4_draw_5 (by decide) (fun h15 => ?_) (fun h15 => ?_)
  · have hf := zt h15 hf
    exact z_vret X (zR_M hf Z) dX4_draw_15
  · have hf := zf h15 hf
    refine z_iload_n X dX4_draw_8 rfl 2 rfl ?_
    obtain ⟨r4, h3, hf⟩ := zb1_sp hf
    refine gc_X4_37 (st := []) X (mtX6_isRow κ.2.1 κ.2.2.2.2.2.2.2.2.2.2.1 G  h3) rfl rfl (Nat.le_of_ble_eq_true rfl) (Nat.le_of_ble_eq_true rfl) (Nat.le_of_ble_eq_true rfl) dX4_draw_9 ?_
    refine z_if_ne (tgt := 16) X dX4_draw_12 (by decide) (fun h14 => ?_) (fun h14 => ?_)
    · have hf := zf h14 hf
      refine z_iconst (v := (1 : Int32)) X dX4_draw_16 (by decide) ?_
      refine z_iload_n X dX4_draw_17 rfl 2 rfl ?_
      refine z_ishl X dX4_draw_18 ?_
      refine z_nmI hf (fun x5 hf => ?_)
      refine z_istore (lv' := [(4, .int x5), (0, .ref (G.1 1)), (1, .int p1), (2, .int p2), (3, .int p3)]) X dX4_draw_19 hm (by decide) rfl ?_
      refine z_aload_n X dX4_draw_21 rfl 1 rfl ?_
      refine gf_X4_9 X dX4_draw_22 ?_
      refine z_iload_n X dX4_draw_25 rfl 2 rfl ?_
      refine z_iload_n X dX4_draw_26 rfl 4 rfl ?_
      obtain ⟨k7, k7e, hf⟩ := zj_sp hf
      have hj8 : ∀ (x6 : Int32), k7 x6 = some Mo → zV κ G 53 [(4, .int x5), (0, .ref (G.1 1)), (1, .int p1), (2, .int p2), (3, .int p3)] [.int x6, .int p1, .ref (G.1 2)] M F := by
        intro x6 hf
        rw [k7e] at hf
        obtain ⟨h12, hf⟩ := zc_sp hf
        refine z_iast X zc_2 zl_2 (zin_sp h12) dX4_draw_53 ?_
        refine z_nmM hf (fun M13 hf => ?_)
        exact z_vret X (zR_M hf Z) dX4_draw_54
      clear k7e
      refine z_if_eq (tgt := 42) X dX4_draw_27 (by decide) (fun h11 => ?_) (fun h11 => ?_)
      · have hf := zt h11 hf
        refine z_aload_n X dX4_draw_42 rfl 1 rfl ?_
        refine gf_X4_9 X dX4_draw_43 ?_
        refine z_iload_n X dX4_draw_46 rfl 2 rfl ?_
        obtain ⟨h9, hf⟩ := zc_sp hf
        refine z_iald X zc_2 zl_2 (zin_sp h9) dX4_draw_47 ?_
        refine z_iload X dX4_draw_48 0 rfl ?_
        refine z_iconst (v := (-1 : Int32)) X dX4_draw_50 (by decide) ?_
        refine z_ixor X dX4_draw_51 ?_
        refine z_iand X dX4_draw_52 ?_
        exact hj8 ((M 2 p1.toNatClampNeg) &&& (x5 ^^^ (-1 : Int32))) hf
      · have hf := zf h11 hf
        refine z_aload_n X dX4_draw_30 rfl 1 rfl ?_
        refine gf_X4_9 X dX4_draw_31 ?_
        refine z_iload_n X dX4_draw_34 rfl 2 rfl ?_
        obtain ⟨h10, hf⟩ := zc_sp hf
        refine z_iald X zc_2 zl_2 (zin_sp h10) dX4_draw_35 ?_
        refine z_iload X dX4_draw_36 0 rfl ?_
        refine z_ior X dX4_draw_38 ?_
        refine z_goto (tgt := 53) X dX4_draw_39 (by decide) ?_
        exact hj8 ((M 2 p1.toNatClampNeg) ||| x5) hf
    · have hf := zt h14 hf
      exact z_vret X (zR_M hf Z) dX4_draw_15
set_option maxHeartbeats 4000000 in
set_option maxRecDepth 100000 in
theorem mtX4_forgetMoves (l : Launch) (D : va_G) (G : zG) {M : zMem} {F : Int64} {Mo : zMem} (hf : fX4_forgetMoves M = some Mo) : zCM l yX4_forgetMoves wX4_forgetMoves { frames := 0, cells := 0, slots := 0, locals := 0 } D G [.ref (G.1 1)] M F none Mo F := by
  refine zCM.ofV (own := RX4) (cc := cX4_forgetMoves) (maxL := 1) (ret := none) (lv := [(0, .ref (G.1 1))]) (by decide) rfl rfl (Nat.le_of_ble_eq_true rfl) rfl (fun κ X Z hm hκ1 hκ2 => ?_)
  subst hκ1 hκ2
  unfold fX4_forgetMoves at hf
  refine z_aload_n X dX4_forgetMoves_0 rfl 0 rfl ?_
  refine z_iconst (v := (0 : Int32)) X dX4_forgetMoves_1 (by decide) ?_
  refine pf_X4_27 X dX4_forgetMoves_2 ?_
  refine z_nmM hf (fun M1 hf => ?_)
  exact z_vret X (zR_M hf Z) dX4_forgetMoves_5
set_option maxHeartbeats 4000000 in
set_option maxRecDepth 100000 in
theorem mtX4_renew (l : Launch) (D : va_G) (G : zG) {p1 : Int32} {M : zMem} {F : Int64} {Mo : zMem} (hf : fX4_renew p1 M = some Mo) : zCM l yX4_renew wX4_renew { frames := 1, cells := 0, slots := 0, locals := 24 } D G [.ref (G.1 1), .int p1] M F none Mo F := by
  refine zCM.ofV (own := RX4) (cc := cX4_renew) (maxL := 2) (ret := none) (lv := [(0, .ref (G.1 1)), (1, .int p1)]) (by decide) rfl rfl (Nat.le_of_ble_eq_true rfl) rfl (fun κ X Z hm hκ1 hκ2 => ?_)
  subst hκ1 hκ2
  unfold fX4_renew at hf
  refine z_aload_n X dX4_renew_0 rfl 0 rfl ?_
  refine z_iconst (v := (1 : Int32)) X dX4_renew_1 (by decide) ?_
  refine z_iload_n X dX4_renew_2 rfl 1 rfl ?_
  refine z_bipush (v := (24 : Int32)) X dX4_renew_3 (by decide) ?_
  refine z_mmin X (List.mem_cons_of_mem _ zw_6_2) (List.mem_cons_of_mem _ zw_6_3) (List.mem_cons_of_mem _ zw_6_4) (List.mem_cons_of_mem _ zw_6_5) (Nat.le_of_ble_eq_true rfl) (Nat.le_of_ble_eq_true rfl) dX4_renew_5 ?_
  refine z_mmax X (List.mem_cons_of_mem _ zw_6_6) (List.mem_cons_of_mem _ zw_6_7) (List.mem_cons_of_mem _ zw_6_4) (List.mem_cons_of_mem _ zw_6_8) (Nat.le_of_ble_eq_true rfl) (Nat.le_of_ble_eq_true rfl) dX4_renew_8 ?_
  refine pf_X4_23 X dX4_renew_11 ?_
  refine z_nmM hf (fun M1 hf => ?_)
  refine z_aload_n X dX4_renew_14 rfl 0 rfl ?_
  refine gf_X4_9 X dX4_renew_15 ?_
  refine z_iconst (v := (0 : Int32)) X dX4_renew_18 (by decide) ?_
  obtain ⟨M3, h2, hf⟩ := zb1_sp hf
  refine gc_X4_53 (st := []) X (mtJ7_fill_53178 κ.2.1 κ.2.2.2.2.2.2.2.2.2.2.1 G zc_2 zl_2 h2) rfl rfl (Nat.le_of_ble_eq_true rfl) (Nat.le_of_ble_eq_true rfl) (Nat.le_of_ble_eq_true rfl) dX4_renew_19 ?_
  refine z_aload_n X dX4_renew_22 rfl 0 rfl ?_
  obtain ⟨M5, h4, hf⟩ := zb1_sp hf
  refine gc_X4_59 (st := []) X (mtX4_forgetMoves κ.2.1 κ.2.2.2.2.2.2.2.2.2.2.1 G  h4) rfl rfl (Nat.le_of_ble_eq_true rfl) (Nat.le_of_ble_eq_true rfl) (Nat.le_of_ble_eq_true rfl) dX4_renew_23 ?_
  exact z_vret X (zR_M hf Z) dX4_renew_26
set_option maxHeartbeats 4000000 in
set_option maxRecDepth 100000 in
theorem mtJ6_bitCount_0f7a4 (l : Launch) (D : va_G) (G : zG) {p0 : Int32} {M : zMem} {F : Int64} {ro : Int32} (hf : fJ6_bitCount_0f7a4 p0 = some ro) : zCM l yJ6_bitCount_0f7a4 wJ6_bitCount_0f7a4 { frames := 0, cells := 0, slots := 0, locals := 0 } D G [.int p0] M F (some (.int ro)) M F := by
  refine zCM.ofV (own := RJ6) (cc := cJ6_bitCount_0f7a4) (maxL := 1) (ret := (some .int)) (lv := [(0, .int p0)]) (by decide) rfl rfl (Nat.le_of_ble_eq_true rfl) rfl (fun κ X Z hm hκ1 hκ2 => ?_)
  subst hκ1 hκ2
  unfold fJ6_bitCount_0f7a4 at hf
  refine z_iload_n X dJ6_bitCount_0f7a4_0 rfl 0 rfl ?_
  refine z_iload_n X dJ6_bitCount_0f7a4_1 rfl 0 rfl ?_
  refine z_iconst (v := (1 : Int32)) X dJ6_bitCount_0f7a4_2 (by decide) ?_
  refine z_iushr X dJ6_bitCount_0f7a4_3 ?_
  refine z_ldcw (v := (1431655765 : Int32)) X dJ6_bitCount_0f7a4_4 (List.mem_cons_of_mem _ zw_5_19) ?_
  refine z_iand X dJ6_bitCount_0f7a4_7 ?_
  refine z_isub X dJ6_bitCount_0f7a4_8 ?_
  refine z_nmI hf (fun x1 hf => ?_)
  refine z_istore_n (lv' := [(0, .int x1)]) X dJ6_bitCount_0f7a4_9 rfl hm (by decide) rfl ?_
  refine z_iload_n X dJ6_bitCount_0f7a4_10 rfl 0 rfl ?_
  refine z_ldcw (v := (858993459 : Int32)) X dJ6_bitCount_0f7a4_11 (List.mem_cons_of_mem _ zw_5_20) ?_
  refine z_iand X dJ6_bitCount_0f7a4_14 ?_
  refine z_iload_n X dJ6_bitCount_0f7a4_15 rfl 0 rfl ?_
  refine z_iconst (v := (2 : Int32)) X dJ6_bitCount_0f7a4_16 (by decide) ?_
  refine z_iushr X dJ6_bitCount_0f7a4_17 ?_
  refine z_ldcw (v := (858993459 : Int32)) X dJ6_bitCount_0f7a4_18 (List.mem_cons_of_mem _ zw_5_20) ?_
  refine z_iand X dJ6_bitCount_0f7a4_21 ?_
  refine z_iadd X dJ6_bitCount_0f7a4_22 ?_
  refine z_nmI hf (fun x2 hf => ?_)
  refine z_istore_n (lv' := [(0, .int x2)]) X dJ6_bitCount_0f7a4_23 rfl hm (by decide) rfl ?_
  refine z_iload_n X dJ6_bitCount_0f7a4_24 rfl 0 rfl ?_
  refine z_iload_n X dJ6_bitCount_0f7a4_25 rfl 0 rfl ?_
  refine z_iconst (v := (4 : Int32)) X dJ6_bitCount_0f7a4_26 (by decide) ?_
  refine z_iushr X dJ6_bitCount_0f7a4_27 ?_
  refine z_iadd X dJ6_bitCount_0f7a4_28 ?_
  refine z_ldcw (v := (252645135 : Int32)) X dJ6_bitCount_0f7a4_29 (List.mem_cons_of_mem _ zw_5_21) ?_
  refine z_iand X dJ6_bitCount_0f7a4_32 ?_
  refine z_nmI hf (fun x3 hf => ?_)
  refine z_istore_n (lv' := [(0, .int x3)]) X dJ6_bitCount_0f7a4_33 rfl hm (by decide) rfl ?_
  refine z_iload_n X dJ6_bitCount_0f7a4_34 rfl 0 rfl ?_
  refine z_iload_n X dJ6_bitCount_0f7a4_35 rfl 0 rfl ?_
  refine z_bipush (v := (8 : Int32)) X dJ6_bitCount_0f7a4_36 (by decide) ?_
  refine z_iushr X dJ6_bitCount_0f7a4_38 ?_
  refine z_iadd X dJ6_bitCount_0f7a4_39 ?_
  refine z_nmI hf (fun x4 hf => ?_)
  refine z_istore_n (lv' := [(0, .int x4)]) X dJ6_bitCount_0f7a4_40 rfl hm (by decide) rfl ?_
  refine z_iload_n X dJ6_bitCount_0f7a4_41 rfl 0 rfl ?_
  refine z_iload_n X dJ6_bitCount_0f7a4_42 rfl 0 rfl ?_
  refine z_bipush (v := (16 : Int32)) X dJ6_bitCount_0f7a4_43 (by decide) ?_
  refine z_iushr X dJ6_bitCount_0f7a4_45 ?_
  refine z_iadd X dJ6_bitCount_0f7a4_46 ?_
  refine z_nmI hf (fun x5 hf => ?_)
  refine z_istore_n (lv' := [(0, .int x5)]) X dJ6_bitCount_0f7a4_47 rfl hm (by decide) rfl ?_
  refine z_iload_n X dJ6_bitCount_0f7a4_48 rfl 0 rfl ?_
  refine z_bipush (v := (63 : Int32)) X dJ6_bitCount_0f7a4_49 (by decide) ?_
  refine z_iand X dJ6_bitCount_0f7a4_51 ?_
  exact z_iret X (zR_i hf Z) dJ6_bitCount_0f7a4_52
set_option maxHeartbeats 4000000 in
set_option maxRecDepth 100000 in
theorem mtX4_ink (l : Launch) (D : va_G) (G : zG) {M : zMem} {F : Int64} {ro : Int32} (hf : fX4_ink M = some ro) : zCM l yX4_ink wX4_ink { frames := 1, cells := 0, slots := 0, locals := 20 } D G [.ref (G.1 1)] M F (some (.int ro)) M F := by
  refine zCM.ofV (own := RX4) (cc := cX4_ink) (maxL := 3) (ret := (some .int)) (lv := [(0, .ref (G.1 1))]) (by decide) rfl rfl (Nat.le_of_ble_eq_true rfl) rfl (fun κ X Z hm hκ1 hκ2 => ?_)
  subst hκ1 hκ2
  unfold fX4_ink at hf
  refine z_iconst (v := (0 : Int32)) X dX4_ink_0 (by decide) ?_
  refine z_istore_n (lv' := [(1, .int (0 : Int32)), (0, .ref (G.1 1))]) X dX4_ink_1 rfl hm (by decide) rfl ?_
  refine z_iconst (v := (0 : Int32)) X dX4_ink_2 (by decide) ?_
  refine z_istore_n (lv' := [(2, .int (0 : Int32)), (1, .int (0 : Int32)), (0, .ref (G.1 1))]) X dX4_ink_3 rfl hm (by decide) rfl ?_
  obtain ⟨b8, hb9, hf⟩ := zb1_sp hf
  have hX3 : ∀ t, t = b8 → zu2 (fun (x15 : Int32) (x16 : Int32) => zV κ G 30 [(2, .int x15), (1, .int x16), (0, .ref (G.1 1))] [] M F) t := by
    intro t ht
    subst ht
    obtain ⟨x15, x16⟩ := t
    show zV κ G 30 [(2, .int x15), (1, .int x16), (0, .ref (G.1 1))] [] M F
    refine z_iload_n X dX4_ink_30 rfl 1 rfl ?_
    exact z_iret X (zR_i hf Z) dX4_ink_31
  refine zlp_walk (P := zu2 (fun (x1 : Int32) (x2 : Int32) => zV κ G 4 [(2, .int x1), (1, .int x2), (0, .ref (G.1 1))] [] M F)) (fun a17 w7 hf hi5 hx6 => ?_) _ _ hb9
  obtain ⟨x1, x2⟩ := a17
  show zV κ G 4 [(2, .int x1), (1, .int x2), (0, .ref (G.1 1))] [] M F
  replace hf : fX4_ink_L4 M x1 x2 = some w7 := hf
  unfold fX4_ink_L4 at hf
  refine z_iload_n X dX4_ink_4 rfl 0 rfl ?_
  refine z_aload_n X dX4_ink_5 rfl 2 rfl ?_
  refine gf_X4_23 X dX4_ink_6 ?_
  refine z_icmp_ge (tgt := 30) X dX4_ink_9 (by decide) (fun h14 => ?_) (fun h14 => ?_)
  · have hf := zt h14 hf
    have hq := hX3 _ (hx6 _ (Option.some.inj hf).symm)
    exact hq
  · have hf := zf h14 hf
    refine z_iload_n X dX4_ink_12 rfl 1 rfl ?_
    refine z_aload_n X dX4_ink_13 rfl 2 rfl ?_
    refine gf_X4_9 X dX4_ink_14 ?_
    refine z_iload_n X dX4_ink_17 rfl 0 rfl ?_
    obtain ⟨h10, hf⟩ := zc_sp hf
    refine z_iald X zc_2 zl_2 (zin_sp h10) dX4_ink_18 ?_
    obtain ⟨r12, h11, hf⟩ := zb1_sp hf
    refine gc_X4_62 (st := [.int x2]) X (mtJ6_bitCount_0f7a4 κ.2.1 κ.2.2.2.2.2.2.2.2.2.2.1 G  h11) rfl rfl (Nat.le_of_ble_eq_true rfl) (Nat.le_of_ble_eq_true rfl) (Nat.le_of_ble_eq_true rfl) dX4_ink_19 ?_
    refine z_iadd X dX4_ink_22 ?_
    refine z_nmI hf (fun x13 hf => ?_)
    refine z_istore_n (lv' := [(1, .int x13), (2, .int x1), (0, .ref (G.1 1))]) X dX4_ink_23 rfl hm (by decide) rfl ?_
    refine z_iinc (lv' := [(2, .int (x1 + (1 : Int32))), (1, .int x13), (0, .ref (G.1 1))]) (v := x1 + (1 : Int32)) X dX4_ink_24 (j := 1) rfl rfl hm (by decide) rfl ?_
    refine z_goto (tgt := 4) X dX4_ink_27 (by decide) ?_
    have hq := hi5 _ (Option.some.inj hf).symm
    exact hq
set_option maxHeartbeats 4000000 in
set_option maxRecDepth 100000 in
theorem mtX4_inkOfRow (l : Launch) (D : va_G) (G : zG) {p1 : Int32} {M : zMem} {F : Int64} {ro : Int32} (hf : fX4_inkOfRow p1 M = some ro) : zCM l yX4_inkOfRow wX4_inkOfRow { frames := 3, cells := 0, slots := 0, locals := 64 } D G [.ref (G.1 1), .int p1] M F (some (.int ro)) M F := by
  refine zCM.ofV (own := RX4) (cc := cX4_inkOfRow) (maxL := 4) (ret := (some .int)) (lv := [(0, .ref (G.1 1)), (1, .int p1)]) (by decide) rfl rfl (Nat.le_of_ble_eq_true rfl) rfl (fun κ X Z hm hκ1 hκ2 => ?_)
  subst hκ1 hκ2
  unfold fX4_inkOfRow at hf
  refine z_iconst (v := (0 : Int32)) X dX4_inkOfRow_0 (by decide) ?_
  refine z_istore_n (lv' := [(2, .int (0 : Int32)), (0, .ref (G.1 1)), (1, .int p1)]) X dX4_inkOfRow_1 rfl hm (by decide) rfl ?_
  refine z_iconst (v := (0 : Int32)) X dX4_inkOfRow_2 (by decide) ?_
  refine z_istore_n (lv' := [(3, .int (0 : Int32)), (2, .int (0 : Int32)), (0, .ref (G.1 1)), (1, .int p1)]) X dX4_inkOfRow_3 rfl hm (by decide) rfl ?_
  obtain ⟨b8, hb9, hf⟩ := zb1_sp hf
  have hX3 : ∀ t, t = b8 → zu2 (fun (x15 : Int32) (x16 : Int32) => zV κ G 35 [(3, .int x15), (2, .int x16), (0, .ref (G.1 1)), (1, .int p1)] [] M F) t := by
    intro t ht
    subst ht
    obtain ⟨x15, x16⟩ := t
    show zV κ G 35 [(3, .int x15), (2, .int x16), (0, .ref (G.1 1)), (1, .int p1)] [] M F
    refine z_iload_n X dX4_inkOfRow_35 rfl 1 rfl ?_
    exact z_iret X (zR_i hf Z) dX4_inkOfRow_36
  refine zlp_walk (P := zu2 (fun (x1 : Int32) (x2 : Int32) => zV κ G 4 [(3, .int x1), (2, .int x2), (0, .ref (G.1 1)), (1, .int p1)] [] M F)) (fun a17 w7 hf hi5 hx6 => ?_) _ _ hb9
  obtain ⟨x1, x2⟩ := a17
  show zV κ G 4 [(3, .int x1), (2, .int x2), (0, .ref (G.1 1)), (1, .int p1)] [] M F
  replace hf : fX4_inkOfRow_L4 p1 M x1 x2 = some w7 := hf
  unfold fX4_inkOfRow_L4 at hf
  refine z_iload_n X dX4_inkOfRow_4 rfl 0 rfl ?_
  refine z_aload_n X dX4_inkOfRow_5 rfl 2 rfl ?_
  refine gf_X4_23 X dX4_inkOfRow_6 ?_
  refine z_icmp_ge (tgt := 35) X dX4_inkOfRow_9 (by decide) (fun h14 => ?_) (fun h14 => ?_)
  · have hf := zt h14 hf
    have hq := hX3 _ (hx6 _ (Option.some.inj hf).symm)
    exact hq
  · have hf := zf h14 hf
    refine z_iload_n X dX4_inkOfRow_12 rfl 1 rfl ?_
    refine z_aload_n X dX4_inkOfRow_13 rfl 2 rfl ?_
    refine z_iload_n X dX4_inkOfRow_14 rfl 0 rfl ?_
    refine z_iload_n X dX4_inkOfRow_15 rfl 3 rfl ?_
    obtain ⟨r11, h10, hf⟩ := zb1_sp hf
    refine gc_X4_67 (st := [.int x2]) X (mtX4_inked κ.2.1 κ.2.2.2.2.2.2.2.2.2.2.1 G  h10) rfl rfl (Nat.le_of_ble_eq_true rfl) (Nat.le_of_ble_eq_true rfl) (Nat.le_of_ble_eq_true rfl) dX4_inkOfRow_16 ?_
    have hj : zV κ G 27 [(3, .int x1), (2, .int x2), (0, .ref (G.1 1)), (1, .int p1)] [.int (if r11 = 0 then (0 : Int32) else (1 : Int32)), .int x2] M F := by
      refine z_iadd X dX4_inkOfRow_27 ?_
      refine z_nmI hf (fun x13 hf => ?_)
      refine z_istore_n (lv' := [(2, .int x13), (3, .int x1), (0, .ref (G.1 1)), (1, .int p1)]) X dX4_inkOfRow_28 rfl hm (by decide) rfl ?_
      refine z_iinc (lv' := [(3, .int (x1 + (1 : Int32))), (2, .int x13), (0, .ref (G.1 1)), (1, .int p1)]) (v := x1 + (1 : Int32)) X dX4_inkOfRow_29 (j := 1) rfl rfl hm (by decide) rfl ?_
      refine z_goto (tgt := 4) X dX4_inkOfRow_32 (by decide) ?_
      have hq := hi5 _ (Option.some.inj hf).symm
      exact hq
    refine z_if_eq (tgt := 26) X dX4_inkOfRow_19 (by decide) (fun h12 => ?_) (fun h12 => ?_)
    · try simp only [if_pos h12] at hj
      refine z_iconst (v := (0 : Int32)) X dX4_inkOfRow_26 (by decide) ?_
      exact hj
    · try simp only [if_neg h12] at hj
      refine z_iconst (v := (1 : Int32)) X dX4_inkOfRow_22 (by decide) ?_
      refine z_goto (tgt := 27) X dX4_inkOfRow_23 (by decide) ?_
      exact hj
set_option maxHeartbeats 4000000 in
set_option maxRecDepth 100000 in
theorem mtX4_allFeet (l : Launch) (D : va_G) (G : zG) {M : zMem} {F : Int64} {ro : Int32} (hf : fX4_allFeet M = some ro) : zCM l yX4_allFeet wX4_allFeet { frames := 3, cells := 0, slots := 0, locals := 63 } D G [.ref (G.1 1)] M F (some (.int ro)) M F := by
  refine zCM.ofV (own := RX4) (cc := cX4_allFeet) (maxL := 3) (ret := (some .int)) (lv := [(0, .ref (G.1 1))]) (by decide) rfl rfl (Nat.le_of_ble_eq_true rfl) rfl (fun κ X Z hm hκ1 hκ2 => ?_)
  subst hκ1 hκ2
  unfold fX4_allFeet at hf
  refine z_iconst (v := (0 : Int32)) X dX4_allFeet_0 (by decide) ?_
  refine z_istore_n (lv' := [(1, .int (0 : Int32)), (0, .ref (G.1 1))]) X dX4_allFeet_1 rfl hm (by decide) rfl ?_
  refine z_iconst (v := (0 : Int32)) X dX4_allFeet_2 (by decide) ?_
  refine z_istore_n (lv' := [(2, .int (0 : Int32)), (1, .int (0 : Int32)), (0, .ref (G.1 1))]) X dX4_allFeet_3 rfl hm (by decide) rfl ?_
  obtain ⟨b8, hb9, hf⟩ := zb1_sp hf
  have hX3 : ∀ t, t = b8 → zu2 (fun (x16 : Int32) (x17 : Int32) => zV κ G 29 [(2, .int x16), (1, .int x17), (0, .ref (G.1 1))] [] M F) t := by
    intro t ht
    subst ht
    obtain ⟨x16, x17⟩ := t
    show zV κ G 29 [(2, .int x16), (1, .int x17), (0, .ref (G.1 1))] [] M F
    refine z_iload_n X dX4_allFeet_29 rfl 1 rfl ?_
    exact z_iret X (zR_i hf Z) dX4_allFeet_30
  refine zlp_walk (P := zu2 (fun (x1 : Int32) (x2 : Int32) => zV κ G 4 [(2, .int x1), (1, .int x2), (0, .ref (G.1 1))] [] M F)) (fun a18 w7 hf hi5 hx6 => ?_) _ _ hb9
  obtain ⟨x1, x2⟩ := a18
  show zV κ G 4 [(2, .int x1), (1, .int x2), (0, .ref (G.1 1))] [] M F
  replace hf : fX4_allFeet_L4 M x1 x2 = some w7 := hf
  unfold fX4_allFeet_L4 at hf
  refine z_iload_n X dX4_allFeet_4 rfl 0 rfl ?_
  refine z_aload_n X dX4_allFeet_5 rfl 2 rfl ?_
  refine gf_X4_23 X dX4_allFeet_6 ?_
  refine z_icmp_ge (tgt := 29) X dX4_allFeet_9 (by decide) (fun h15 => ?_) (fun h15 => ?_)
  · have hf := zt h15 hf
    have hq := hX3 _ (hx6 _ (Option.some.inj hf).symm)
    exact hq
  · have hf := zf h15 hf
    refine z_iload_n X dX4_allFeet_12 rfl 1 rfl ?_
    refine z_aload_n X dX4_allFeet_13 rfl 2 rfl ?_
    refine z_iload_n X dX4_allFeet_14 rfl 0 rfl ?_
    obtain ⟨r11, h10, hf⟩ := zb1_sp hf
    refine gc_X4_71 (st := [.int x2]) X (mtX4_feet κ.2.1 κ.2.2.2.2.2.2.2.2.2.2.1 G  h10) rfl rfl (Nat.le_of_ble_eq_true rfl) (Nat.le_of_ble_eq_true rfl) (Nat.le_of_ble_eq_true rfl) dX4_allFeet_15 ?_
    obtain ⟨r13, h12, hf⟩ := zb1_sp hf
    refine gc_X4_62 (st := [.int x2]) X (mtJ6_bitCount_0f7a4 κ.2.1 κ.2.2.2.2.2.2.2.2.2.2.1 G  h12) rfl rfl (Nat.le_of_ble_eq_true rfl) (Nat.le_of_ble_eq_true rfl) (Nat.le_of_ble_eq_true rfl) dX4_allFeet_18 ?_
    refine z_iadd X dX4_allFeet_21 ?_
    refine z_nmI hf (fun x14 hf => ?_)
    refine z_istore_n (lv' := [(1, .int x14), (2, .int x1), (0, .ref (G.1 1))]) X dX4_allFeet_22 rfl hm (by decide) rfl ?_
    refine z_iinc (lv' := [(2, .int (x1 + (1 : Int32))), (1, .int x14), (0, .ref (G.1 1))]) (v := x1 + (1 : Int32)) X dX4_allFeet_23 (j := 1) rfl rfl hm (by decide) rfl ?_
    refine z_goto (tgt := 4) X dX4_allFeet_26 (by decide) ?_
    have hq := hi5 _ (Option.some.inj hf).symm
    exact hq
set_option maxHeartbeats 4000000 in
set_option maxRecDepth 100000 in
theorem mtX4_moves (l : Launch) (D : va_G) (G : zG) {M : zMem} {F : Int64} {ro : Int32} (hf : fX4_moves M = some ro) : zCM l yX4_moves wX4_moves { frames := 0, cells := 0, slots := 0, locals := 0 } D G [.ref (G.1 1)] M F (some (.int ro)) M F := by
  refine zCM.ofV (own := RX4) (cc := cX4_moves) (maxL := 1) (ret := (some .int)) (lv := [(0, .ref (G.1 1))]) (by decide) rfl rfl (Nat.le_of_ble_eq_true rfl) rfl (fun κ X Z hm hκ1 hκ2 => ?_)
  subst hκ1 hκ2
  unfold fX4_moves at hf
  refine z_aload_n X dX4_moves_0 rfl 0 rfl ?_
  refine gf_X4_27 X dX4_moves_1 ?_
  exact z_iret X (zR_i hf Z) dX4_moves_4
set_option maxHeartbeats 4000000 in
set_option maxRecDepth 100000 in
theorem mtX4_takeBack (l : Launch) (D : va_G) (G : zG) {M : zMem} {F : Int64} {Mo : zMem} (hf : fX4_takeBack M = some Mo) : zCM l yX4_takeBack wX4_takeBack { frames := 1, cells := 0, slots := 0, locals := 40 } D G [.ref (G.1 1)] M F none Mo F := by
  refine zCM.ofV (own := RX4) (cc := cX4_takeBack) (maxL := 1) (ret := none) (lv := [(0, .ref (G.1 1))]) (by decide) rfl rfl (Nat.le_of_ble_eq_true rfl) rfl (fun κ X Z hm hκ1 hκ2 => ?_)
  subst hκ1 hκ2
  unfold fX4_takeBack at hf
  refine z_aload_n X dX4_takeBack_0 rfl 0 rfl ?_
  refine gf_X4_27 X dX4_takeBack_1 ?_
  refine z_if_ne (tgt := 8) X dX4_takeBack_4 (by decide) (fun h6 => ?_) (fun h6 => ?_)
  · have hf := zf h6 hf
    refine z_aload_n X dX4_takeBack_8 rfl 0 rfl ?_
    refine z_dup X dX4_takeBack_9 rfl ?_
    refine gf_X4_27 X dX4_takeBack_10 ?_
    refine z_iconst (v := (1 : Int32)) X dX4_takeBack_13 (by decide) ?_
    refine z_isub X dX4_takeBack_14 ?_
    refine pf_X4_27 X dX4_takeBack_15 ?_
    refine z_nmM hf (fun M1 hf => ?_)
    refine z_aload_n X dX4_takeBack_18 rfl 0 rfl ?_
    refine z_aload_n X dX4_takeBack_19 rfl 0 rfl ?_
    refine gf_X4_30 X dX4_takeBack_20 ?_
    refine z_bipush (v := (8 : Int32)) X dX4_takeBack_23 (by decide) ?_
    refine z_iadd X dX4_takeBack_25 ?_
    refine z_iconst (v := (1 : Int32)) X dX4_takeBack_26 (by decide) ?_
    refine z_isub X dX4_takeBack_27 ?_
    refine z_bipush (v := (8 : Int32)) X dX4_takeBack_28 (by decide) ?_
    refine z_irem X dX4_takeBack_30 (by decide) ?_
    refine pf_X4_30 X dX4_takeBack_31 ?_
    refine z_nmM hf (fun M2 hf => ?_)
    refine z_aload_n X dX4_takeBack_34 rfl 0 rfl ?_
    refine gf_X4_20 X dX4_takeBack_35 ?_
    refine z_aload_n X dX4_takeBack_38 rfl 0 rfl ?_
    refine gf_X4_30 X dX4_takeBack_39 ?_
    obtain ⟨h3, hf⟩ := zc_sp hf
    refine z_aald (ty := .array .int) X zc_4 zl_4 rfl rfl (zin_sp h3) dX4_takeBack_42 ?_
    refine z_iconst (v := (0 : Int32)) X dX4_takeBack_43 (by decide) ?_
    refine z_aload_n X dX4_takeBack_44 rfl 0 rfl ?_
    refine gf_X4_9 X dX4_takeBack_45 ?_
    refine z_iconst (v := (0 : Int32)) X dX4_takeBack_48 (by decide) ?_
    refine z_bipush (v := (24 : Int32)) X dX4_takeBack_49 (by decide) ?_
    obtain ⟨h4, hf⟩ := zc_sp hf
    obtain ⟨h41, h42, h43, h44, h45⟩ := zcp_sp h4
    refine z_copy X (zc_erow (zin_lt h3)) zc_2 (zl_erow (zin_lt h3)) zl_2 (List.mem_cons_of_mem _ zw_22_23) (List.mem_cons_of_mem _ zw_14_20) (List.mem_cons_of_mem _ zw_14_21) (List.mem_cons_of_mem _ zw_14_22) h41 h42 h43 h44 h45 (Nat.le_of_ble_eq_true rfl) (Nat.le_of_ble_eq_true rfl) dX4_takeBack_51 ?_
    refine z_nmM hf (fun M5 hf => ?_)
    exact z_vret X (zR_M hf Z) dX4_takeBack_54
  · have hf := zt h6 hf
    exact z_vret X (zR_M hf Z) dX4_takeBack_7
set_option maxHeartbeats 4000000 in
set_option maxRecDepth 100000 in
theorem mtX4_raised (l : Launch) (D : va_G) (G : zG) {p0 : Int32} {p1 : Int32} {M : zMem} {F : Int64} {ro : Int32} (hf : fX4_raised p0 p1 = some ro) : zCM l yX4_raised wX4_raised { frames := 0, cells := 0, slots := 0, locals := 0 } D G [.int p0, .int p1] M F (some (.int ro)) M F := by
  refine zCM.ofV (own := RX4) (cc := cX4_raised) (maxL := 2) (ret := (some .int)) (lv := [(0, .int p0), (1, .int p1)]) (by decide) rfl rfl (Nat.le_of_ble_eq_true rfl) rfl (fun κ X Z hm hκ1 hκ2 => ?_)
  subst hκ1 hκ2
  unfold fX4_raised at hf
  refine z_iload_n X dX4_raised_0 rfl 1 rfl ?_
  refine z_bipush (v := (32 : Int32)) X dX4_raised_1 (by decide) ?_
  refine z_icmp_ge (tgt := 12) X dX4_raised_3 (by decide) (fun h3 => ?_) (fun h3 => ?_)
  · have hf := zt h3 hf
    refine z_iconst (v := (0 : Int32)) X dX4_raised_12 (by decide) ?_
    exact z_iret X (zR_i hf Z) dX4_raised_13
  · have hf := zf h3 hf
    refine z_iload_n X dX4_raised_6 rfl 1 rfl ?_
    refine z_bipush (v := (-32 : Int32)) X dX4_raised_7 (by decide) ?_
    refine z_icmp_gt (tgt := 14) X dX4_raised_9 (by decide) (fun h2 => ?_) (fun h2 => ?_)
    · have hf := zt h2 hf
      refine z_iload_n X dX4_raised_14 rfl 1 rfl ?_
      have hj : zV κ G 28 [(0, .int p0), (1, .int p1)] [.int (if p1 < 0 then (p0 <<< ((-p1) &&& 31)) else (zush p0 p1))] M F := by
        exact z_iret X (zR_i hf Z) dX4_raised_28
      refine z_if_lt (tgt := 24) X dX4_raised_15 (by decide) (fun h1 => ?_) (fun h1 => ?_)
      · try simp only [if_pos h1] at hj
        refine z_iload_n X dX4_raised_24 rfl 0 rfl ?_
        refine z_iload_n X dX4_raised_25 rfl 1 rfl ?_
        refine z_ineg X dX4_raised_26 ?_
        refine z_ishl X dX4_raised_27 ?_
        exact hj
      · try simp only [if_neg h1] at hj
        refine z_iload_n X dX4_raised_18 rfl 0 rfl ?_
        refine z_iload_n X dX4_raised_19 rfl 1 rfl ?_
        refine z_iushr X dX4_raised_20 ?_
        refine z_goto (tgt := 28) X dX4_raised_21 (by decide) ?_
        exact hj
    · have hf := zf h2 hf
      refine z_iconst (v := (0 : Int32)) X dX4_raised_12 (by decide) ?_
      exact z_iret X (zR_i hf Z) dX4_raised_13
set_option maxHeartbeats 4000000 in
set_option maxRecDepth 100000 in
theorem mtX4_finishMove (l : Launch) (D : va_G) (G : zG) {M : zMem} {F : Int64} {Mo : zMem} (hf : fX4_finishMove M = some Mo) : zCM l yX4_finishMove wX4_finishMove { frames := 1, cells := 0, slots := 0, locals := 40 } D G [.ref (G.1 1)] M F none Mo F := by
  refine zCM.ofV (own := RX4) (cc := cX4_finishMove) (maxL := 1) (ret := none) (lv := [(0, .ref (G.1 1))]) (by decide) rfl rfl (Nat.le_of_ble_eq_true rfl) rfl (fun κ X Z hm hκ1 hκ2 => ?_)
  subst hκ1 hκ2
  unfold fX4_finishMove at hf
  refine z_aload_n X dX4_finishMove_0 rfl 0 rfl ?_
  refine gf_X4_9 X dX4_finishMove_1 ?_
  refine z_iconst (v := (0 : Int32)) X dX4_finishMove_4 (by decide) ?_
  refine z_aload_n X dX4_finishMove_5 rfl 0 rfl ?_
  refine gf_X4_20 X dX4_finishMove_6 ?_
  refine z_aload_n X dX4_finishMove_9 rfl 0 rfl ?_
  refine gf_X4_30 X dX4_finishMove_10 ?_
  obtain ⟨h1, hf⟩ := zc_sp hf
  refine z_aald (ty := .array .int) X zc_4 zl_4 rfl rfl (zin_sp h1) dX4_finishMove_13 ?_
  refine z_iconst (v := (0 : Int32)) X dX4_finishMove_14 (by decide) ?_
  refine z_bipush (v := (24 : Int32)) X dX4_finishMove_15 (by decide) ?_
  obtain ⟨h2, hf⟩ := zc_sp hf
  obtain ⟨h21, h22, h23, h24, h25⟩ := zcp_sp h2
  refine z_copy X zc_2 (zc_erow (zin_lt h1)) zl_2 (zl_erow (zin_lt h1)) (List.mem_cons_of_mem _ zw_22_23) (List.mem_cons_of_mem _ zw_14_20) (List.mem_cons_of_mem _ zw_14_21) (List.mem_cons_of_mem _ zw_14_22) h21 h22 h23 h24 h25 (Nat.le_of_ble_eq_true rfl) (Nat.le_of_ble_eq_true rfl) dX4_finishMove_17 ?_
  refine z_nmM hf (fun M3 hf => ?_)
  refine z_aload_n X dX4_finishMove_20 rfl 0 rfl ?_
  refine gf_X4_15 X dX4_finishMove_21 ?_
  refine z_iconst (v := (0 : Int32)) X dX4_finishMove_24 (by decide) ?_
  refine z_aload_n X dX4_finishMove_25 rfl 0 rfl ?_
  refine gf_X4_9 X dX4_finishMove_26 ?_
  refine z_iconst (v := (0 : Int32)) X dX4_finishMove_29 (by decide) ?_
  refine z_aload_n X dX4_finishMove_30 rfl 0 rfl ?_
  refine gf_X4_23 X dX4_finishMove_31 ?_
  obtain ⟨h4, hf⟩ := zc_sp hf
  obtain ⟨h41, h42, h43, h44, h45⟩ := zcp_sp h4
  refine z_copy X zc_3 zc_2 zl_3 zl_2 (List.mem_cons_of_mem _ zw_22_23) (List.mem_cons_of_mem _ zw_14_20) (List.mem_cons_of_mem _ zw_14_21) (List.mem_cons_of_mem _ zw_14_22) h41 h42 h43 h44 h45 (Nat.le_of_ble_eq_true rfl) (Nat.le_of_ble_eq_true rfl) dX4_finishMove_34 ?_
  refine z_nmM hf (fun M5 hf => ?_)
  refine z_aload_n X dX4_finishMove_37 rfl 0 rfl ?_
  refine z_aload_n X dX4_finishMove_38 rfl 0 rfl ?_
  refine gf_X4_30 X dX4_finishMove_39 ?_
  refine z_iconst (v := (1 : Int32)) X dX4_finishMove_42 (by decide) ?_
  refine z_iadd X dX4_finishMove_43 ?_
  refine z_bipush (v := (8 : Int32)) X dX4_finishMove_44 (by decide) ?_
  refine z_irem X dX4_finishMove_46 (by decide) ?_
  refine pf_X4_30 X dX4_finishMove_47 ?_
  refine z_nmM hf (fun M6 hf => ?_)
  refine z_aload_n X dX4_finishMove_50 rfl 0 rfl ?_
  refine z_aload_n X dX4_finishMove_51 rfl 0 rfl ?_
  refine gf_X4_27 X dX4_finishMove_52 ?_
  refine z_iconst (v := (1 : Int32)) X dX4_finishMove_55 (by decide) ?_
  refine z_iadd X dX4_finishMove_56 ?_
  refine z_bipush (v := (8 : Int32)) X dX4_finishMove_57 (by decide) ?_
  refine z_mmin X (List.mem_cons_of_mem _ zw_6_2) (List.mem_cons_of_mem _ zw_6_3) (List.mem_cons_of_mem _ zw_6_4) (List.mem_cons_of_mem _ zw_6_5) (Nat.le_of_ble_eq_true rfl) (Nat.le_of_ble_eq_true rfl) dX4_finishMove_59 ?_
  refine pf_X4_27 X dX4_finishMove_62 ?_
  refine z_nmM hf (fun M7 hf => ?_)
  exact z_vret X (zR_M hf Z) dX4_finishMove_65
set_option maxHeartbeats 4000000 in
set_option maxRecDepth 100000 in
theorem mtX4_slideColumns (l : Launch) (D : va_G) (G : zG) {M : zMem} {F : Int64} {ro : Int32} {Mo : zMem} (hf : fX4_slideColumns M = some (ro, Mo)) : zCM l yX4_slideColumns wX4_slideColumns { frames := 2, cells := 0, slots := 0, locals := 60 } D G [.ref (G.1 1), .ref (G.1 59)] M F (some (.int ro)) Mo F := by
  refine zCM.ofV (own := RX4) (cc := cX4_slideColumns) (maxL := 5) (ret := (some .int)) (lv := [(0, .ref (G.1 1)), (1, .ref (G.1 59))]) (by decide) rfl rfl (Nat.le_of_ble_eq_true rfl) rfl (fun κ X Z hm hκ1 hκ2 => ?_)
  subst hκ1 hκ2
  unfold fX4_slideColumns at hf
  refine z_iconst (v := (0 : Int32)) X dX4_slideColumns_0 (by decide) ?_
  refine z_istore_n (lv' := [(2, .int (0 : Int32)), (0, .ref (G.1 1)), (1, .ref (G.1 59))]) X dX4_slideColumns_1 rfl hm (by decide) rfl ?_
  refine z_iconst (v := (0 : Int32)) X dX4_slideColumns_2 (by decide) ?_
  refine z_istore_n (lv' := [(3, .int (0 : Int32)), (2, .int (0 : Int32)), (0, .ref (G.1 1)), (1, .ref (G.1 59))]) X dX4_slideColumns_3 rfl hm (by decide) rfl ?_
  obtain ⟨b9, hb10, hf⟩ := zbr_sp hf
  have hX4 : ∀ t, Sum.inl t = b9 → zu3 (fun (x29 : Int32) (x30 : Int32) (M31 : zMem) => zV κ G 85 [(3, .int x29), (2, .int x30), (0, .ref (G.1 1)), (1, .ref (G.1 59))] [] M31 F) t := by
    intro t ht
    subst ht
    obtain ⟨x29, x30, M31⟩ := t
    show zV κ G 85 [(3, .int x29), (2, .int x30), (0, .ref (G.1 1)), (1, .ref (G.1 59))] [] M31 F
    refine z_aload_n X dX4_slideColumns_85 rfl 2 rfl ?_
    obtain ⟨M33, h32, hf⟩ := zb1_sp hf
    refine gc_X4_83 (st := []) X (mtX4_finishMove κ.2.1 κ.2.2.2.2.2.2.2.2.2.2.1 G  h32) rfl rfl (Nat.le_of_ble_eq_true rfl) (Nat.le_of_ble_eq_true rfl) (Nat.le_of_ble_eq_true rfl) dX4_slideColumns_86 ?_
    refine z_iload_n X dX4_slideColumns_89 rfl 1 rfl ?_
    exact z_iret X (zR_iM hf Z) dX4_slideColumns_90
  have hR5 : ∀ r, Sum.inr r = b9 → some r = some (ro, Mo) := by
    intro r hr
    subst hr
    exact hf
  refine zlp_walk (P := zu3 (fun (x1 : Int32) (x2 : Int32) (M3 : zMem) => zV κ G 4 [(3, .int x1), (2, .int x2), (0, .ref (G.1 1)), (1, .ref (G.1 59))] [] M3 F)) (fun a34 w8 hf hi6 hx7 => ?_) _ _ hb10
  obtain ⟨x1, x2, M3⟩ := a34
  show zV κ G 4 [(3, .int x1), (2, .int x2), (0, .ref (G.1 1)), (1, .ref (G.1 59))] [] M3 F
  replace hf : fX4_slideColumns_L4 x1 x2 M3 = some w8 := hf
  unfold fX4_slideColumns_L4 at hf
  refine z_iload_n X dX4_slideColumns_4 rfl 0 rfl ?_
  refine z_aload_n X dX4_slideColumns_5 rfl 2 rfl ?_
  refine gf_X4_23 X dX4_slideColumns_6 ?_
  refine z_icmp_ge (tgt := 85) X dX4_slideColumns_9 (by decide) (fun h28 => ?_) (fun h28 => ?_)
  · have hf := zt h28 hf
    have hq := hX4 _ (hx7 _ (Option.some.inj hf).symm)
    exact hq
  · have hf := zf h28 hf
    refine z_iload_n X dX4_slideColumns_12 rfl 0 rfl ?_
    refine z_aload_n X dX4_slideColumns_13 rfl 3 rfl ?_
    refine z_alen (v := (32 : Int32)) X zc_59 zl_59 ⟨_, rfl⟩ (by decide) dX4_slideColumns_14 ?_
    refine z_icmp_ge (tgt := 85) X dX4_slideColumns_15 (by decide) (fun h27 => ?_) (fun h27 => ?_)
    · have hf := zt h27 hf
      have hq := hX4 _ (hx7 _ (Option.some.inj hf).symm)
      exact hq
    · have hf := zf h27 hf
      refine z_aload_n X dX4_slideColumns_18 rfl 2 rfl ?_
      refine gf_X4_15 X dX4_slideColumns_19 ?_
      refine z_iload_n X dX4_slideColumns_22 rfl 0 rfl ?_
      refine z_aload_n X dX4_slideColumns_23 rfl 2 rfl ?_
      refine gf_X4_9 X dX4_slideColumns_24 ?_
      refine z_iload_n X dX4_slideColumns_27 rfl 0 rfl ?_
      obtain ⟨h11, hf⟩ := zc_sp hf
      refine z_iald X zc_2 zl_2 (zin_sp h11) dX4_slideColumns_28 ?_
      refine z_aload_n X dX4_slideColumns_29 rfl 3 rfl ?_
      refine z_iload_n X dX4_slideColumns_30 rfl 0 rfl ?_
      obtain ⟨h12, hf⟩ := zc_sp hf
      refine z_iald X zc_59 zl_59 (zin_sp h12) dX4_slideColumns_31 ?_
      obtain ⟨r14, h13, hf⟩ := zb1_sp hf
      refine gc_X4_80 (st := [.int x1, .ref (G.1 3)]) X (mtX4_raised κ.2.1 κ.2.2.2.2.2.2.2.2.2.2.1 G  h13) rfl rfl (Nat.le_of_ble_eq_true rfl) (Nat.le_of_ble_eq_true rfl) (Nat.le_of_ble_eq_true rfl) dX4_slideColumns_32 ?_
      obtain ⟨h15, hf⟩ := zc_sp hf
      refine z_iast X zc_3 zl_3 (zin_sp h15) dX4_slideColumns_35 ?_
      refine z_nmM hf (fun M16 hf => ?_)
      refine z_aload_n X dX4_slideColumns_36 rfl 2 rfl ?_
      refine gf_X4_9 X dX4_slideColumns_37 ?_
      refine z_iload_n X dX4_slideColumns_40 rfl 0 rfl ?_
      obtain ⟨h17, hf⟩ := zc_sp hf
      refine z_iald X zc_2 zl_2 (zin_sp h17) dX4_slideColumns_41 ?_
      obtain ⟨r19, h18, hf⟩ := zb1_sp hf
      refine gc_X4_62 (st := []) X (mtJ6_bitCount_0f7a4 κ.2.1 κ.2.2.2.2.2.2.2.2.2.2.1 G  h18) rfl rfl (Nat.le_of_ble_eq_true rfl) (Nat.le_of_ble_eq_true rfl) (Nat.le_of_ble_eq_true rfl) dX4_slideColumns_42 ?_
      refine z_istore (lv' := [(4, .int r19), (3, .int x1), (2, .int x2), (0, .ref (G.1 1)), (1, .ref (G.1 59))]) X dX4_slideColumns_45 hm (by decide) rfl ?_
      refine z_aload_n X dX4_slideColumns_47 rfl 3 rfl ?_
      refine gf_X4_15 X dX4_slideColumns_48 ?_
      refine z_iload_n X dX4_slideColumns_51 rfl 1 rfl ?_
      obtain ⟨h20, hf⟩ := zc_sp hf
      refine z_iald X zc_3 zl_3 (zin_sp h20) dX4_slideColumns_52 ?_
      obtain ⟨r22, h21, hf⟩ := zb1_sp hf
      refine gc_X4_62 (st := []) X (mtJ6_bitCount_0f7a4 κ.2.1 κ.2.2.2.2.2.2.2.2.2.2.1 G  h21) rfl rfl (Nat.le_of_ble_eq_true rfl) (Nat.le_of_ble_eq_true rfl) (Nat.le_of_ble_eq_true rfl) dX4_slideColumns_53 ?_
      refine z_iload X dX4_slideColumns_56 0 rfl ?_
      refine z_icmp_eq (tgt := 64) X dX4_slideColumns_58 (by decide) (fun h26 => ?_) (fun h26 => ?_)
      · have hf := zt h26 hf
        refine z_iload_n X dX4_slideColumns_64 rfl 2 rfl ?_
        refine z_aload_n X dX4_slideColumns_65 rfl 4 rfl ?_
        refine z_iload_n X dX4_slideColumns_66 rfl 1 rfl ?_
        obtain ⟨h23, hf⟩ := zc_sp hf
        refine z_iald X zc_59 zl_59 (zin_sp h23) dX4_slideColumns_67 ?_
        have hj : zV κ G 77 [(4, .int r19), (3, .int x1), (2, .int x2), (0, .ref (G.1 1)), (1, .ref (G.1 59))] [.int (if (M16 59 x1.toNatClampNeg) = 0 then (0 : Int32) else r19), .int x2] M16 F := by
          refine z_iadd X dX4_slideColumns_77 ?_
          refine z_nmI hf (fun x25 hf => ?_)
          refine z_istore_n (lv' := [(2, .int x25), (4, .int r19), (3, .int x1), (0, .ref (G.1 1)), (1, .ref (G.1 59))]) X dX4_slideColumns_78 rfl hm (by decide) rfl ?_
          refine z_iinc (lv' := [(3, .int (x1 + (1 : Int32))), (2, .int x25), (4, .int r19), (0, .ref (G.1 1)), (1, .ref (G.1 59))]) (v := x1 + (1 : Int32)) X dX4_slideColumns_79 (j := 2) rfl rfl hm (by decide) rfl ?_
          refine z_goto (tgt := 4) X dX4_slideColumns_82 (by decide) ?_
          refine z_sub [0, 1, 3, 4] rfl ?_
          have hq := hi6 _ (Option.some.inj hf).symm
          exact hq
        refine z_if_ne (tgt := 75) X dX4_slideColumns_68 (by decide) (fun h24 => ?_) (fun h24 => ?_)
        · try simp only [if_neg h24] at hj
          refine z_iload X dX4_slideColumns_75 0 rfl ?_
          exact hj
        · try simp only [if_pos h24] at hj
          refine z_iconst (v := (0 : Int32)) X dX4_slideColumns_71 (by decide) ?_
          refine z_goto (tgt := 77) X dX4_slideColumns_72 (by decide) ?_
          exact hj
      · have hf := zf h26 hf
        refine z_bipush (v := (-3 : Int32)) X dX4_slideColumns_61 (by decide) ?_
        have hf := hR5 _ (hx7 _ (Option.some.inj hf).symm)
        exact z_iret X (zR_iM hf Z) dX4_slideColumns_63
set_option maxHeartbeats 4000000 in
set_option maxRecDepth 100000 in
theorem mtX4_slideRows (l : Launch) (D : va_G) (G : zG) {M : zMem} {F : Int64} {ro : Int32} {Mo : zMem} (hf : fX4_slideRows M = some (ro, Mo)) : zCM l yX4_slideRows wX4_slideRows { frames := 3, cells := 0, slots := 0, locals := 64 } D G [.ref (G.1 1), .ref (G.1 59)] M F (some (.int ro)) Mo F := by
  refine zCM.ofV (own := RX4) (cc := cX4_slideRows) (maxL := 6) (ret := (some .int)) (lv := [(0, .ref (G.1 1)), (1, .ref (G.1 59))]) (by decide) rfl rfl (Nat.le_of_ble_eq_true rfl) rfl (fun κ X Z hm hκ1 hκ2 => ?_)
  subst hκ1 hκ2
  unfold fX4_slideRows at hf
  refine z_iconst (v := (0 : Int32)) X dX4_slideRows_0 (by decide) ?_
  refine z_istore_n (lv' := [(2, .int (0 : Int32)), (0, .ref (G.1 1)), (1, .ref (G.1 59))]) X dX4_slideRows_1 rfl hm (by decide) rfl ?_
  refine z_aload_n X dX4_slideRows_2 rfl 1 rfl ?_
  refine gf_X4_15 X dX4_slideRows_3 ?_
  refine z_iconst (v := (0 : Int32)) X dX4_slideRows_6 (by decide) ?_
  obtain ⟨M2, h1, hf⟩ := zb1_sp hf
  refine gc_X4_53 (st := []) X (mtJ7_fill_53178 κ.2.1 κ.2.2.2.2.2.2.2.2.2.2.1 G zc_3 zl_3 h1) rfl rfl (Nat.le_of_ble_eq_true rfl) (Nat.le_of_ble_eq_true rfl) (Nat.le_of_ble_eq_true rfl) dX4_slideRows_7 ?_
  refine z_iconst (v := (0 : Int32)) X dX4_slideRows_10 (by decide) ?_
  refine z_istore_n (lv' := [(3, .int (0 : Int32)), (2, .int (0 : Int32)), (0, .ref (G.1 1)), (1, .ref (G.1 59))]) X dX4_slideRows_11 rfl hm (by decide) rfl ?_
  obtain ⟨b11, hb12, hf⟩ := zbr_sp hf
  have hX6 : ∀ t, Sum.inl t = b11 → zu3 (fun (x44 : Int32) (x45 : Int32) (M46 : zMem) => zV κ G 108 [(3, .int x44), (2, .int x45), (0, .ref (G.1 1)), (1, .ref (G.1 59))] [] M46 F) t := by
    intro t ht
    subst ht
    obtain ⟨x44, x45, M46⟩ := t
    show zV κ G 108 [(3, .int x44), (2, .int x45), (0, .ref (G.1 1)), (1, .ref (G.1 59))] [] M46 F
    refine z_aload_n X dX4_slideRows_108 rfl 2 rfl ?_
    obtain ⟨M48, h47, hf⟩ := zb1_sp hf
    refine gc_X4_83 (st := []) X (mtX4_finishMove κ.2.1 κ.2.2.2.2.2.2.2.2.2.2.1 G  h47) rfl rfl (Nat.le_of_ble_eq_true rfl) (Nat.le_of_ble_eq_true rfl) (Nat.le_of_ble_eq_true rfl) dX4_slideRows_109 ?_
    refine z_iload_n X dX4_slideRows_112 rfl 1 rfl ?_
    exact z_iret X (zR_iM hf Z) dX4_slideRows_113
  have hR7 : ∀ r, Sum.inr r = b11 → some r = some (ro, Mo) := by
    intro r hr
    subst hr
    exact hf
  refine zlp_walk (P := zu3 (fun (x3 : Int32) (x4 : Int32) (M5 : zMem) => zV κ G 12 [(3, .int x3), (2, .int x4), (0, .ref (G.1 1)), (1, .ref (G.1 59))] [] M5 F)) (fun a49 w10 hf hi8 hx9 => ?_) _ _ hb12
  obtain ⟨x3, x4, M5⟩ := a49
  show zV κ G 12 [(3, .int x3), (2, .int x4), (0, .ref (G.1 1)), (1, .ref (G.1 59))] [] M5 F
  replace hf : fX4_slideRows_L12 x3 x4 M5 = some w10 := hf
  unfold fX4_slideRows_L12 at hf
  refine z_iload_n X dX4_slideRows_12 rfl 0 rfl ?_
  refine z_bipush (v := (32 : Int32)) X dX4_slideRows_13 (by decide) ?_
  refine z_icmp_ge (tgt := 108) X dX4_slideRows_15 (by decide) (fun h43 => ?_) (fun h43 => ?_)
  · have hf := zt h43 hf
    have hq := hX6 _ (hx9 _ (Option.some.inj hf).symm)
    exact hq
  · have hf := zf h43 hf
    refine z_iload_n X dX4_slideRows_18 rfl 0 rfl ?_
    refine z_aload_n X dX4_slideRows_19 rfl 3 rfl ?_
    refine z_alen (v := (32 : Int32)) X zc_59 zl_59 ⟨_, rfl⟩ (by decide) dX4_slideRows_20 ?_
    refine z_icmp_ge (tgt := 108) X dX4_slideRows_21 (by decide) (fun h42 => ?_) (fun h42 => ?_)
    · have hf := zt h42 hf
      have hq := hX6 _ (hx9 _ (Option.some.inj hf).symm)
      exact hq
    · have hf := zf h42 hf
      refine z_iconst (v := (0 : Int32)) X dX4_slideRows_24 (by decide) ?_
      refine z_istore (lv' := [(4, .int (0 : Int32)), (3, .int x3), (2, .int x4), (0, .ref (G.1 1)), (1, .ref (G.1 59))]) X dX4_slideRows_25 hm (by decide) rfl ?_
      obtain ⟨b21, hb22, hf⟩ := zbr_sp hf
      have hX16 : ∀ t, Sum.inl t = b21 → zu3 (fun (x38 : Int32) (x39 : Int32) (M40 : zMem) => zV κ G 102 [(4, .int x38), (3, .int x3), (2, .int x39), (0, .ref (G.1 1)), (1, .ref (G.1 59))] [] M40 F) t := by
        intro t ht
        subst ht
        obtain ⟨x38, x39, M40⟩ := t
        show zV κ G 102 [(4, .int x38), (3, .int x3), (2, .int x39), (0, .ref (G.1 1)), (1, .ref (G.1 59))] [] M40 F
        refine z_iinc (lv' := [(3, .int (x3 + (1 : Int32))), (4, .int x38), (2, .int x39), (0, .ref (G.1 1)), (1, .ref (G.1 59))]) (v := x3 + (1 : Int32)) X dX4_slideRows_102 (j := 1) rfl rfl hm (by decide) rfl ?_
        refine z_goto (tgt := 12) X dX4_slideRows_105 (by decide) ?_
        refine z_sub [0, 2, 3, 4] rfl ?_
        have hq := hi8 _ (Option.some.inj hf).symm
        exact hq
      have hR17 : ∀ r, Sum.inr r = b21 → some (.inr (.inr r)) = some w10 := by
        intro r hr
        subst hr
        exact hf
      refine zlp_walk (P := zu3 (fun (x13 : Int32) (x14 : Int32) (M15 : zMem) => zV κ G 27 [(4, .int x13), (3, .int x3), (2, .int x14), (0, .ref (G.1 1)), (1, .ref (G.1 59))] [] M15 F)) (fun a41 w20 hf hi18 hx19 => ?_) _ _ hb22
      obtain ⟨x13, x14, M15⟩ := a41
      show zV κ G 27 [(4, .int x13), (3, .int x3), (2, .int x14), (0, .ref (G.1 1)), (1, .ref (G.1 59))] [] M15 F
      replace hf : fX4_slideRows_L27 x3 x13 x14 M15 = some w20 := hf
      unfold fX4_slideRows_L27 at hf
      refine z_iload X dX4_slideRows_27 0 rfl ?_
      refine z_aload_n X dX4_slideRows_29 rfl 3 rfl ?_
      refine gf_X4_23 X dX4_slideRows_30 ?_
      refine z_icmp_ge (tgt := 102) X dX4_slideRows_33 (by decide) (fun h37 => ?_) (fun h37 => ?_)
      · have hf := zt h37 hf
        have hq := hX16 _ (hx19 _ (Option.some.inj hf).symm)
        exact hq
      · have hf := zf h37 hf
        refine z_aload_n X dX4_slideRows_36 rfl 3 rfl ?_
        refine z_iload X dX4_slideRows_37 0 rfl ?_
        refine z_iload_n X dX4_slideRows_39 rfl 1 rfl ?_
        obtain ⟨r24, h23, hf⟩ := zb1_sp hf
        refine gc_X4_67 (st := []) X (mtX4_inked κ.2.1 κ.2.2.2.2.2.2.2.2.2.2.1 G  h23) rfl rfl (Nat.le_of_ble_eq_true rfl) (Nat.le_of_ble_eq_true rfl) (Nat.le_of_ble_eq_true rfl) dX4_slideRows_40 ?_
        refine z_if_ne (tgt := 49) X dX4_slideRows_43 (by decide) (fun h36 => ?_) (fun h36 => ?_)
        · have hf := zf h36 hf
          refine z_iload X dX4_slideRows_49 0 rfl ?_
          refine z_aload_n X dX4_slideRows_51 rfl 4 rfl ?_
          refine z_iload_n X dX4_slideRows_52 rfl 1 rfl ?_
          obtain ⟨h25, hf⟩ := zc_sp hf
          refine z_iald X zc_59 zl_59 (zin_sp h25) dX4_slideRows_53 ?_
          refine z_isub X dX4_slideRows_54 ?_
          refine z_nmI hf (fun x26 hf => ?_)
          refine z_istore (lv' := [(5, .int x26), (4, .int x13), (3, .int x3), (2, .int x14), (0, .ref (G.1 1)), (1, .ref (G.1 59))]) X dX4_slideRows_55 hm (by decide) rfl ?_
          refine z_aload_n X dX4_slideRows_57 rfl 4 rfl ?_
          refine z_iload X dX4_slideRows_58 0 rfl ?_
          obtain ⟨r28, h27, hf⟩ := zb1_sp hf
          refine gc_X4_33 (st := []) X (mtX4_hasColumn κ.2.1 κ.2.2.2.2.2.2.2.2.2.2.1 G  h27) rfl rfl (Nat.le_of_ble_eq_true rfl) (Nat.le_of_ble_eq_true rfl) (Nat.le_of_ble_eq_true rfl) dX4_slideRows_60 ?_
          refine z_if_ne (tgt := 69) X dX4_slideRows_63 (by decide) (fun h35 => ?_) (fun h35 => ?_)
          · have hf := zf h35 hf
            refine z_aload_n X dX4_slideRows_69 rfl 4 rfl ?_
            refine gf_X4_15 X dX4_slideRows_70 ?_
            refine z_iload X dX4_slideRows_73 0 rfl ?_
            refine z_dup2 X dX4_slideRows_75 rfl rfl ?_
            obtain ⟨h29, hf⟩ := zc_sp hf
            refine z_iald X zc_3 zl_3 (zin_sp h29) dX4_slideRows_76 ?_
            refine z_iconst (v := (1 : Int32)) X dX4_slideRows_77 (by decide) ?_
            refine z_iload_n X dX4_slideRows_78 rfl 2 rfl ?_
            refine z_ishl X dX4_slideRows_79 ?_
            refine z_ior X dX4_slideRows_80 ?_
            obtain ⟨h30, hf⟩ := zc_sp hf
            refine z_iast X zc_3 zl_3 (zin_sp h30) dX4_slideRows_81 ?_
            refine z_nmM hf (fun M31 hf => ?_)
            refine z_iload_n X dX4_slideRows_82 rfl 3 rfl ?_
            refine z_aload_n X dX4_slideRows_83 rfl 5 rfl ?_
            refine z_iload_n X dX4_slideRows_84 rfl 2 rfl ?_
            obtain ⟨h32, hf⟩ := zc_sp hf
            refine z_iald X zc_59 zl_59 (zin_sp h32) dX4_slideRows_85 ?_
            have hj : zV κ G 94 [(5, .int x26), (4, .int x13), (3, .int x3), (2, .int x14), (0, .ref (G.1 1)), (1, .ref (G.1 59))] [.int (if (M31 59 x3.toNatClampNeg) = 0 then (0 : Int32) else (1 : Int32)), .int x14] M31 F := by
              refine z_iadd X dX4_slideRows_94 ?_
              refine z_nmI hf (fun x34 hf => ?_)
              refine z_istore_n (lv' := [(2, .int x34), (5, .int x26), (4, .int x13), (3, .int x3), (0, .ref (G.1 1)), (1, .ref (G.1 59))]) X dX4_slideRows_95 rfl hm (by decide) rfl ?_
              refine z_iinc (lv' := [(4, .int (x13 + (1 : Int32))), (2, .int x34), (5, .int x26), (3, .int x3), (0, .ref (G.1 1)), (1, .ref (G.1 59))]) (v := x13 + (1 : Int32)) X dX4_slideRows_96 (j := 2) rfl rfl hm (by decide) rfl ?_
              refine z_goto (tgt := 27) X dX4_slideRows_99 (by decide) ?_
              refine z_sub [0, 3, 1, 4, 5] rfl ?_
              have hq := hi18 _ (Option.some.inj hf).symm
              exact hq
            refine z_if_ne (tgt := 93) X dX4_slideRows_86 (by decide) (fun h33 => ?_) (fun h33 => ?_)
            · try simp only [if_neg h33] at hj
              refine z_iconst (v := (1 : Int32)) X dX4_slideRows_93 (by decide) ?_
              exact hj
            · try simp only [if_pos h33] at hj
              refine z_iconst (v := (0 : Int32)) X dX4_slideRows_89 (by decide) ?_
              refine z_goto (tgt := 94) X dX4_slideRows_90 (by decide) ?_
              exact hj
          · have hf := zt h35 hf
            refine z_bipush (v := (-3 : Int32)) X dX4_slideRows_66 (by decide) ?_
            have hf := hR17 _ (hx19 _ (Option.some.inj hf).symm)
            have hf := hR7 _ (hx9 _ (Option.some.inj hf).symm)
            exact z_iret X (zR_iM hf Z) dX4_slideRows_68
        · have hf := zt h36 hf
          refine z_goto (tgt := 96) X dX4_slideRows_46 (by decide) ?_
          refine z_iinc (lv' := [(4, .int (x13 + (1 : Int32))), (3, .int x3), (2, .int x14), (0, .ref (G.1 1)), (1, .ref (G.1 59))]) (v := x13 + (1 : Int32)) X dX4_slideRows_96 (j := 0) rfl rfl hm (by decide) rfl ?_
          refine z_goto (tgt := 27) X dX4_slideRows_99 (by decide) ?_
          have hq := hi18 _ (Option.some.inj hf).symm
          exact hq
set_option maxHeartbeats 4000000 in
set_option maxRecDepth 100000 in
theorem mtX5_addRuns (l : Launch) (D : va_G) (G : zG) {p2 : Int32} {M : zMem} {F : Int64} {Mo : zMem} (hf : fX5_addRuns p2 M = some Mo) : zCM l yX5_addRuns wX5_addRuns { frames := 3, cells := 0, slots := 0, locals := 64 } D G [.ref (G.1 26), .ref (G.1 1), .int p2] M F none Mo F := by
  refine zCM.ofV (own := RX5) (cc := cX5_addRuns) (maxL := 6) (ret := none) (lv := [(0, .ref (G.1 26)), (1, .ref (G.1 1)), (2, .int p2)]) (by decide) rfl rfl (Nat.le_of_ble_eq_true rfl) rfl (fun κ X Z hm hκ1 hκ2 => ?_)
  subst hκ1 hκ2
  unfold fX5_addRuns at hf
  refine z_iconst (v := (0 : Int32)) X dX5_addRuns_0 (by decide) ?_
  refine z_istore_n (lv' := [(3, .int (0 : Int32)), (0, .ref (G.1 26)), (1, .ref (G.1 1)), (2, .int p2)]) X dX5_addRuns_1 rfl hm (by decide) rfl ?_
  refine z_iconst (v := (0 : Int32)) X dX5_addRuns_2 (by decide) ?_
  refine z_istore (lv' := [(4, .int (0 : Int32)), (3, .int (0 : Int32)), (0, .ref (G.1 26)), (1, .ref (G.1 1)), (2, .int p2)]) X dX5_addRuns_3 hm (by decide) rfl ?_
  obtain ⟨b9, hb10, hf⟩ := zb1_sp hf
  have hX4 : ∀ t, t = b9 → zu3 (fun (x36 : Int32) (x37 : Int32) (M38 : zMem) => zV κ G 120 [(4, .int x36), (3, .int x37), (0, .ref (G.1 26)), (1, .ref (G.1 1)), (2, .int p2)] [] M38 F) t := by
    intro t ht
    subst ht
    obtain ⟨x36, x37, M38⟩ := t
    show zV κ G 120 [(4, .int x36), (3, .int x37), (0, .ref (G.1 26)), (1, .ref (G.1 1)), (2, .int p2)] [] M38 F
    exact z_vret X (zR_M hf Z) dX5_addRuns_120
  refine zlp_walk (P := zu3 (fun (x1 : Int32) (x2 : Int32) (M3 : zMem) => zV κ G 5 [(4, .int x1), (3, .int x2), (0, .ref (G.1 26)), (1, .ref (G.1 1)), (2, .int p2)] [] M3 F)) (fun a39 w8 hf hi6 hx7 => ?_) _ _ hb10
  obtain ⟨x1, x2, M3⟩ := a39
  show zV κ G 5 [(4, .int x1), (3, .int x2), (0, .ref (G.1 26)), (1, .ref (G.1 1)), (2, .int p2)] [] M3 F
  replace hf : fX5_addRuns_L5 p2 x1 x2 M3 = some w8 := hf
  unfold fX5_addRuns_L5 at hf
  refine z_iload X dX5_addRuns_5 0 rfl ?_
  refine z_aload_n X dX5_addRuns_7 rfl 3 rfl ?_
  obtain ⟨r12, h11, hf⟩ := zb1_sp hf
  refine gc_X5_69 (st := [.int x1]) X (mtX4_width κ.2.1 κ.2.2.2.2.2.2.2.2.2.2.1 G  h11) rfl rfl (Nat.le_of_ble_eq_true rfl) (Nat.le_of_ble_eq_true rfl) (Nat.le_of_ble_eq_true rfl) dX5_addRuns_8 ?_
  refine z_icmp_ge (tgt := 120) X dX5_addRuns_11 (by decide) (fun h35 => ?_) (fun h35 => ?_)
  · have hf := zt h35 hf
    have hq := hX4 _ (hx7 _ (Option.some.inj hf).symm)
    exact hq
  · have hf := zf h35 hf
    refine z_aload_n X dX5_addRuns_14 rfl 3 rfl ?_
    refine z_iload X dX5_addRuns_15 0 rfl ?_
    refine z_iload_n X dX5_addRuns_17 rfl 4 rfl ?_
    obtain ⟨r14, h13, hf⟩ := zb1_sp hf
    refine gc_X5_75 (st := []) X (mtX4_inked κ.2.1 κ.2.2.2.2.2.2.2.2.2.2.1 G  h13) rfl rfl (Nat.le_of_ble_eq_true rfl) (Nat.le_of_ble_eq_true rfl) (Nat.le_of_ble_eq_true rfl) dX5_addRuns_18 ?_
    refine z_istore (lv' := [(5, .int r14), (4, .int x1), (3, .int x2), (0, .ref (G.1 26)), (1, .ref (G.1 1)), (2, .int p2)]) X dX5_addRuns_21 hm (by decide) rfl ?_
    refine z_iload X dX5_addRuns_23 0 rfl ?_
    obtain ⟨k16, k16e, hf⟩ := zj_sp hf
    have hj17 : ∀ (M15 : zMem), k16 M15 = some w8 → zV κ G 86 [(5, .int r14), (4, .int x1), (3, .int x2), (0, .ref (G.1 26)), (1, .ref (G.1 1)), (2, .int p2)] [] M15 F := by
      intro M15 hf
      rw [k16e] at hf
      refine z_iload X dX5_addRuns_86 0 rfl ?_
      obtain ⟨k29, k29e, hf⟩ := zj_sp hf
      have hj30 : ∀ (M28 : zMem), k29 M28 = some w8 → zV κ G 111 [(5, .int r14), (4, .int x1), (3, .int x2), (0, .ref (G.1 26)), (1, .ref (G.1 1)), (2, .int p2)] [] M28 F := by
        intro M28 hf
        rw [k29e] at hf
        refine z_iload X dX5_addRuns_111 0 rfl ?_
        refine z_istore_n (lv' := [(3, .int r14), (5, .int r14), (4, .int x1), (0, .ref (G.1 26)), (1, .ref (G.1 1)), (2, .int p2)]) X dX5_addRuns_113 rfl hm (by decide) rfl ?_
        refine z_iinc (lv' := [(4, .int (x1 + (1 : Int32))), (3, .int r14), (5, .int r14), (0, .ref (G.1 26)), (1, .ref (G.1 1)), (2, .int p2)]) (v := x1 + (1 : Int32)) X dX5_addRuns_114 (j := 2) rfl rfl hm (by decide) rfl ?_
        refine z_goto (tgt := 5) X dX5_addRuns_117 (by decide) ?_
        refine z_sub [0, 1, 3, 4, 5] rfl ?_
        have hq := hi6 _ (Option.some.inj hf).symm
        exact hq
      clear k29e
      refine z_if_eq (tgt := 111) X dX5_addRuns_88 (by decide) (fun h34 => ?_) (fun h34 => ?_)
      · have hf := zt h34 hf
        exact hj30 M15 hf
      · have hf := zf h34 hf
        refine z_aload_n X dX5_addRuns_91 rfl 3 rfl ?_
        refine gf_X5_27 X dX5_addRuns_92 ?_
        refine z_if_le (tgt := 111) X dX5_addRuns_95 (by decide) (fun h33 => ?_) (fun h33 => ?_)
        · have hf := zt h33 hf
          exact hj30 M15 hf
        · have hf := zf h33 hf
          refine z_aload_n X dX5_addRuns_98 rfl 3 rfl ?_
          refine gf_X5_18 X dX5_addRuns_99 ?_
          refine z_aload_n X dX5_addRuns_102 rfl 3 rfl ?_
          refine gf_X5_27 X dX5_addRuns_103 ?_
          refine z_iconst (v := (1 : Int32)) X dX5_addRuns_106 (by decide) ?_
          refine z_isub X dX5_addRuns_107 ?_
          refine z_iload X dX5_addRuns_108 1 rfl ?_
          obtain ⟨h31, hf⟩ := zc_sp hf
          refine z_iast X zc_29 zl_29 (zin_sp h31) dX5_addRuns_110 ?_
          refine z_nmM hf (fun M32 hf => ?_)
          exact hj30 M32 hf
    clear k16e
    refine z_if_eq (tgt := 86) X dX5_addRuns_25 (by decide) (fun h27 => ?_) (fun h27 => ?_)
    · have hf := zt h27 hf
      exact hj17 M3 hf
    · have hf := zf h27 hf
      refine z_iload_n X dX5_addRuns_28 rfl 2 rfl ?_
      refine z_if_ne (tgt := 86) X dX5_addRuns_29 (by decide) (fun h26 => ?_) (fun h26 => ?_)
      · have hf := zf h26 hf
        exact hj17 M3 hf
      · have hf := zt h26 hf
        refine z_aload_n X dX5_addRuns_32 rfl 3 rfl ?_
        refine gf_X5_27 X dX5_addRuns_33 ?_
        refine z_sipush (v := (384 : Int32)) X dX5_addRuns_36 (by decide) ?_
        refine z_icmp_ge (tgt := 86) X dX5_addRuns_39 (by decide) (fun h25 => ?_) (fun h25 => ?_)
        · have hf := zt h25 hf
          exact hj17 M3 hf
        · have hf := zf h25 hf
          refine z_aload_n X dX5_addRuns_42 rfl 3 rfl ?_
          refine gf_X5_11 X dX5_addRuns_43 ?_
          refine z_aload_n X dX5_addRuns_46 rfl 3 rfl ?_
          refine gf_X5_27 X dX5_addRuns_47 ?_
          refine z_iload_n X dX5_addRuns_50 rfl 5 rfl ?_
          obtain ⟨h18, hf⟩ := zc_sp hf
          refine z_iast X zc_27 zl_27 (zin_sp h18) dX5_addRuns_51 ?_
          refine z_nmM hf (fun M19 hf => ?_)
          refine z_aload_n X dX5_addRuns_52 rfl 3 rfl ?_
          refine gf_X5_15 X dX5_addRuns_53 ?_
          refine z_aload_n X dX5_addRuns_56 rfl 3 rfl ?_
          refine gf_X5_27 X dX5_addRuns_57 ?_
          refine z_iload X dX5_addRuns_60 1 rfl ?_
          obtain ⟨h20, hf⟩ := zc_sp hf
          refine z_iast X zc_28 zl_28 (zin_sp h20) dX5_addRuns_62 ?_
          refine z_nmM hf (fun M21 hf => ?_)
          refine z_aload_n X dX5_addRuns_63 rfl 3 rfl ?_
          refine gf_X5_21 X dX5_addRuns_64 ?_
          refine z_aload_n X dX5_addRuns_67 rfl 3 rfl ?_
          refine gf_X5_27 X dX5_addRuns_68 ?_
          refine z_aload_n X dX5_addRuns_71 rfl 3 rfl ?_
          refine gf_X5_27 X dX5_addRuns_72 ?_
          obtain ⟨h22, hf⟩ := zc_sp hf
          refine z_iast X zc_30 zl_30 (zin_sp h22) dX5_addRuns_75 ?_
          refine z_nmM hf (fun M23 hf => ?_)
          refine z_aload_n X dX5_addRuns_76 rfl 3 rfl ?_
          refine z_dup X dX5_addRuns_77 rfl ?_
          refine gf_X5_27 X dX5_addRuns_78 ?_
          refine z_iconst (v := (1 : Int32)) X dX5_addRuns_81 (by decide) ?_
          refine z_iadd X dX5_addRuns_82 ?_
          refine pf_X5_27 X dX5_addRuns_83 ?_
          refine z_nmM hf (fun M24 hf => ?_)
          exact hj17 M24 hf
