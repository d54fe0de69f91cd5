set_option maxHeartbeats 4000000 in
set_option maxRecDepth 100000 in
theorem mtX7_clears (l : Launch) (D : va_G) (G : zG) {p1 : Int32} {p2 : Int32} {p3 : Int32} {M : zMem} {F : Int64} {Mo : zMem} (hf : fX7_clears p1 p2 p3 M = some Mo) : zCM l yX7_clears wX7_clears { frames := 0, cells := 0, slots := 0, locals := 0 } D G [.ref (G.1 60), .int p1, .int p2, .int p3] M F none Mo F := by
  refine zCM.ofV (own := RX7) (cc := cX7_clears) (maxL := 5) (ret := none) (lv := [(0, .ref (G.1 60)), (1, .int p1), (2, .int p2), (3, .int p3)]) (by decide) rfl rfl (Nat.le_of_ble_eq_true rfl) rfl (fun κ X Z hm hκ1 hκ2 => ?_)
  subst hκ1 hκ2
  unfold fX7_clears at hf
  refine z_aload_n X dX7_clears_0 rfl 0 rfl ?_
  refine gf_X7_17 X dX7_clears_1 ?_
  refine z_iload_n X dX7_clears_4 rfl 1 rfl ?_
  refine z_iload_n X dX7_clears_5 rfl 2 rfl ?_
  obtain ⟨h1, hf⟩ := zc_sp hf
  refine z_iast X zc_62 zl_62 (zin_sp h1) dX7_clears_6 ?_
  refine z_nmM hf (fun M2 hf => ?_)
  refine z_aload_n X dX7_clears_7 rfl 0 rfl ?_
  refine gf_X7_21 X dX7_clears_8 ?_
  refine z_iload_n X dX7_clears_11 rfl 1 rfl ?_
  refine z_iload_n X dX7_clears_12 rfl 3 rfl ?_
  obtain ⟨h3, hf⟩ := zc_sp hf
  refine z_iast X zc_63 zl_63 (zin_sp h3) dX7_clears_13 ?_
  refine z_nmM hf (fun M4 hf => ?_)
  refine z_iconst (v := (0 : Int32)) X dX7_clears_14 (by decide) ?_
  refine z_istore (lv' := [(4, .int (0 : Int32)), (0, .ref (G.1 60)), (1, .int p1), (2, .int p2), (3, .int p3)]) X dX7_clears_15 hm (by decide) rfl ?_
  refine z_sub [0, 1, 2] rfl ?_
  obtain ⟨b12, hb13, hf⟩ := zb1_sp hf
  have hX7 : ∀ t, t = b12 → zu2 (fun (x17 : Int32) (M18 : zMem) => zV κ G 43 [(4, .int x17), (0, .ref (G.1 60)), (1, .int p1)] [] M18 F) t := by
    intro t ht
    subst ht
    obtain ⟨x17, M18⟩ := t
    show zV κ G 43 [(4, .int x17), (0, .ref (G.1 60)), (1, .int p1)] [] M18 F
    exact z_vret X (zR_M hf Z) dX7_clears_43
  refine zlp_walk (P := zu2 (fun (x5 : Int32) (M6 : zMem) => zV κ G 17 [(4, .int x5), (0, .ref (G.1 60)), (1, .int p1)] [] M6 F)) (fun a19 w11 hf hi9 hx10 => ?_) _ _ hb13
  obtain ⟨x5, M6⟩ := a19
  show zV κ G 17 [(4, .int x5), (0, .ref (G.1 60)), (1, .int p1)] [] M6 F
  replace hf : fX7_clears_L17 p1 x5 M6 = some w11 := hf
  unfold fX7_clears_L17 at hf
  refine z_iload X dX7_clears_17 0 rfl ?_
  refine z_bipush (v := (32 : Int32)) X dX7_clears_19 (by decide) ?_
  refine z_icmp_ge (tgt := 43) X dX7_clears_21 (by decide) (fun h16 => ?_) (fun h16 => ?_)
  · have hf := zt h16 hf
    have hq := hX7 _ (hx10 _ (Option.some.inj hf).symm)
    exact hq
  · have hf := zf h16 hf
    refine z_aload_n X dX7_clears_24 rfl 1 rfl ?_
    refine gf_X7_24 X dX7_clears_25 ?_
    refine z_bipush (v := (32 : Int32)) X dX7_clears_28 (by decide) ?_
    refine z_iload_n X dX7_clears_30 rfl 2 rfl ?_
    refine z_imul X dX7_clears_31 ?_
    refine z_iload X dX7_clears_32 0 rfl ?_
    refine z_iadd X dX7_clears_34 ?_
    refine z_iconst (v := (0 : Int32)) X dX7_clears_35 (by decide) ?_
    obtain ⟨h14, hf⟩ := zc_sp hf
    refine z_iast X zc_64 zl_64 (zin_sp h14) dX7_clears_36 ?_
    refine z_nmM hf (fun M15 hf => ?_)
    refine z_iinc (lv' := [(4, .int (x5 + (1 : Int32))), (0, .ref (G.1 60)), (1, .int p1)]) (v := x5 + (1 : Int32)) X dX7_clears_37 (j := 0) rfl rfl hm (by decide) rfl ?_
    refine z_goto (tgt := 17) X dX7_clears_40 (by decide) ?_
    have hq := hi9 _ (Option.some.inj hf).symm
    exact hq
set_option maxHeartbeats 4000000 in
set_option maxRecDepth 100000 in
theorem mtX7_take (l : Launch) (D : va_G) (G : zG) {p1 : Int32} {p2 : Int32} {M : zMem} {F : Int64} {ro : Int32} {Mo : zMem} (hf : fX7_take p1 p2 M = some (ro, Mo)) : zCM l yX7_take wX7_take { frames := 3, cells := 0, slots := 0, locals := 65 } D G [.ref (G.1 60), .int p1, .int p2] M F (some (.int ro)) Mo F := by
  refine zCM.ofV (own := RX7) (cc := cX7_take) (maxL := 5) (ret := (some .int)) (lv := [(0, .ref (G.1 60)), (1, .int p1), (2, .int p2)]) (by decide) rfl rfl (Nat.le_of_ble_eq_true rfl) rfl (fun κ X Z hm hκ1 hκ2 => ?_)
  subst hκ1 hκ2
  unfold fX7_take at hf
  refine z_iload_n X dX7_take_0 rfl 1 rfl ?_
  obtain ⟨r2, h1, hf⟩ := zb1_sp hf
  refine gc_X7_93 (st := []) X (mtX7_isCard κ.2.1 κ.2.2.2.2.2.2.2.2.2.2.1 G  h1) rfl rfl (Nat.le_of_ble_eq_true rfl) (Nat.le_of_ble_eq_true rfl) (Nat.le_of_ble_eq_true rfl) dX7_take_1 ?_
  refine z_if_eq (tgt := 14) X dX7_take_4 (by decide) (fun h32 => ?_) (fun h32 => ?_)
  · have hf := zt h32 hf
    refine z_iconst (v := (-1 : Int32)) X dX7_take_14 (by decide) ?_
    exact z_iret X (zR_iM hf Z) dX7_take_15
  · have hf := zf h32 hf
    refine z_iload_n X dX7_take_7 rfl 2 rfl ?_
    obtain ⟨r4, h3, hf⟩ := zb1_sp hf
    refine gc_X7_74 (st := []) X (mtX7_isRow κ.2.1 κ.2.2.2.2.2.2.2.2.2.2.1 G  h3) rfl rfl (Nat.le_of_ble_eq_true rfl) (Nat.le_of_ble_eq_true rfl) (Nat.le_of_ble_eq_true rfl) dX7_take_8 ?_
    refine z_if_ne (tgt := 16) X dX7_take_11 (by decide) (fun h31 => ?_) (fun h31 => ?_)
    · have hf := zf h31 hf
      refine z_aload_n X dX7_take_16 rfl 0 rfl ?_
      refine z_iload_n X dX7_take_17 rfl 1 rfl ?_
      refine z_iconst (v := (3 : Int32)) X dX7_take_18 (by decide) ?_
      refine z_aload_n X dX7_take_19 rfl 0 rfl ?_
      refine gf_X7_7 X dX7_take_20 ?_
      obtain ⟨M6, h5, hf⟩ := zb1_sp hf
      refine gc_X7_103 (st := []) X (mtX7_clears κ.2.1 κ.2.2.2.2.2.2.2.2.2.2.1 G  h5) rfl rfl (Nat.le_of_ble_eq_true rfl) (Nat.le_of_ble_eq_true rfl) (Nat.le_of_ble_eq_true rfl) dX7_take_23 ?_
      refine z_iconst (v := (0 : Int32)) X dX7_take_26 (by decide) ?_
      refine z_istore_n (lv' := [(3, .int (0 : Int32)), (0, .ref (G.1 60)), (1, .int p1), (2, .int p2)]) X dX7_take_27 rfl hm (by decide) rfl ?_
      refine z_iconst (v := (0 : Int32)) X dX7_take_28 (by decide) ?_
      refine z_istore (lv' := [(4, .int (0 : Int32)), (3, .int (0 : Int32)), (0, .ref (G.1 60)), (1, .int p1), (2, .int p2)]) X dX7_take_29 hm (by decide) rfl ?_
      obtain ⟨b15, hb16, hf⟩ := zb1_sp hf
      have hX10 : ∀ t, t = b15 → zu3 (fun (x27 : Int32) (x28 : Int32) (M29 : zMem) => zV κ G 91 [(4, .int x27), (3, .int x28), (0, .ref (G.1 60)), (1, .int p1), (2, .int p2)] [] M29 F) t := by
        intro t ht
        subst ht
        obtain ⟨x27, x28, M29⟩ := t
        show zV κ G 91 [(4, .int x27), (3, .int x28), (0, .ref (G.1 60)), (1, .int p1), (2, .int p2)] [] M29 F
        refine z_iload_n X dX7_take_91 rfl 1 rfl ?_
        exact z_iret X (zR_iM hf Z) dX7_take_92
      refine zlp_walk (P := zu3 (fun (x7 : Int32) (x8 : Int32) (M9 : zMem) => zV κ G 31 [(4, .int x7), (3, .int x8), (0, .ref (G.1 60)), (1, .int p1), (2, .int p2)] [] M9 F)) (fun a30 w14 hf hi12 hx13 => ?_) _ _ hb16
      obtain ⟨x7, x8, M9⟩ := a30
      show zV κ G 31 [(4, .int x7), (3, .int x8), (0, .ref (G.1 60)), (1, .int p1), (2, .int p2)] [] M9 F
      replace hf : fX7_take_L31 p1 p2 x7 x8 M9 = some w14 := hf
      unfold fX7_take_L31 at hf
      refine z_iload X dX7_take_31 0 rfl ?_
      refine z_aload_n X dX7_take_33 rfl 2 rfl ?_
      refine gf_X7_7 X dX7_take_34 ?_
      refine z_icmp_ge (tgt := 91) X dX7_take_37 (by decide) (fun h26 => ?_) (fun h26 => ?_)
      · have hf := zt h26 hf
        have hq := hX10 _ (hx13 _ (Option.some.inj hf).symm)
        exact hq
      · have hf := zf h26 hf
        refine z_aload_n X dX7_take_40 rfl 2 rfl ?_
        refine gf_X7_24 X dX7_take_41 ?_
        refine z_bipush (v := (32 : Int32)) X dX7_take_44 (by decide) ?_
        refine z_iload_n X dX7_take_46 rfl 3 rfl ?_
        refine z_imul X dX7_take_47 ?_
        refine z_iload X dX7_take_48 0 rfl ?_
        refine z_iadd X dX7_take_50 ?_
        refine z_aload_n X dX7_take_51 rfl 2 rfl ?_
        refine z_iload X dX7_take_52 0 rfl ?_
        refine z_iload_n X dX7_take_54 rfl 4 rfl ?_
        obtain ⟨r18, h17, hf⟩ := zb1_sp hf
        refine gc_X7_88 (st := [.int (((32 : Int32) * p1) + x7), .ref (G.1 64)]) X (mtX7_isDot κ.2.1 κ.2.2.2.2.2.2.2.2.2.2.1 G  h17) rfl rfl (Nat.le_of_ble_eq_true rfl) (Nat.le_of_ble_eq_true rfl) (Nat.le_of_ble_eq_true rfl) dX7_take_55 ?_
        have hj : zV κ G 66 [(4, .int x7), (3, .int x8), (0, .ref (G.1 60)), (1, .int p1), (2, .int p2)] [.int (if r18 = 0 then (0 : Int32) else (1 : Int32)), .int (((32 : Int32) * p1) + x7), .ref (G.1 64)] M9 F := by
          obtain ⟨h20, hf⟩ := zc_sp hf
          refine z_iast X zc_64 zl_64 (zin_sp h20) dX7_take_66 ?_
          refine z_nmM hf (fun M21 hf => ?_)
          refine z_iload_n X dX7_take_67 rfl 1 rfl ?_
          refine z_aload_n X dX7_take_68 rfl 2 rfl ?_
          refine z_iload X dX7_take_69 0 rfl ?_
          refine z_iload_n X dX7_take_71 rfl 4 rfl ?_
          obtain ⟨r23, h22, hf⟩ := zb1_sp hf
          refine gc_X7_88 (st := [.int x8]) X (mtX7_isDot κ.2.1 κ.2.2.2.2.2.2.2.2.2.2.1 G  h22) rfl rfl (Nat.le_of_ble_eq_true rfl) (Nat.le_of_ble_eq_true rfl) (Nat.le_of_ble_eq_true rfl) dX7_take_72 ?_
          have hj : zV κ G 83 [(4, .int x7), (3, .int x8), (0, .ref (G.1 60)), (1, .int p1), (2, .int p2)] [.int (if r23 = 0 then (0 : Int32) else (1 : Int32)), .int x8] M21 F := by
            refine z_iadd X dX7_take_83 ?_
            refine z_nmI hf (fun x25 hf => ?_)
            refine z_istore_n (lv' := [(3, .int x25), (4, .int x7), (0, .ref (G.1 60)), (1, .int p1), (2, .int p2)]) X dX7_take_84 rfl hm (by decide) rfl ?_
            refine z_iinc (lv' := [(4, .int (x7 + (1 : Int32))), (3, .int x25), (0, .ref (G.1 60)), (1, .int p1), (2, .int p2)]) (v := x7 + (1 : Int32)) X dX7_take_85 (j := 1) rfl rfl hm (by decide) rfl ?_
            refine z_goto (tgt := 31) X dX7_take_88 (by decide) ?_
            have hq := hi12 _ (Option.some.inj hf).symm
            exact hq
          refine z_if_eq (tgt := 82) X dX7_take_75 (by decide) (fun h24 => ?_) (fun h24 => ?_)
          · try simp only [if_pos h24] at hj
            refine z_iconst (v := (0 : Int32)) X dX7_take_82 (by decide) ?_
            exact hj
          · try simp only [if_neg h24] at hj
            refine z_iconst (v := (1 : Int32)) X dX7_take_78 (by decide) ?_
            refine z_goto (tgt := 83) X dX7_take_79 (by decide) ?_
            exact hj
        refine z_if_eq (tgt := 65) X dX7_take_58 (by decide) (fun h19 => ?_) (fun h19 => ?_)
        · try simp only [if_pos h19] at hj
          refine z_iconst (v := (0 : Int32)) X dX7_take_65 (by decide) ?_
          exact hj
        · try simp only [if_neg h19] at hj
          refine z_iconst (v := (1 : Int32)) X dX7_take_61 (by decide) ?_
          refine z_goto (tgt := 66) X dX7_take_62 (by decide) ?_
          exact hj
    · have hf := zt h31 hf
      refine z_iconst (v := (-1 : Int32)) X dX7_take_14 (by decide) ?_
      exact z_iret X (zR_iM hf Z) dX7_take_15
set_option maxHeartbeats 4000000 in
set_option maxRecDepth 100000 in
theorem mtX7_blank (l : Launch) (D : va_G) (G : zG) {p1 : Int32} {p2 : Int32} {p3 : Int32} {M : zMem} {F : Int64} {ro : Int32} {Mo : zMem} (hf : fX7_blank p1 p2 p3 M = some (ro, Mo)) : zCM l yX7_blank wX7_blank { frames := 2, cells := 0, slots := 0, locals := 42 } D G [.ref (G.1 60), .int p1, .int p2, .int p3] M F (some (.int ro)) Mo F := by
  refine zCM.ofV (own := RX7) (cc := cX7_blank) (maxL := 4) (ret := (some .int)) (lv := [(0, .ref (G.1 60)), (1, .int p1), (2, .int p2), (3, .int p3)]) (by decide) rfl rfl (Nat.le_of_ble_eq_true rfl) rfl (fun κ X Z hm hκ1 hκ2 => ?_)
  subst hκ1 hκ2
  unfold fX7_blank at hf
  refine z_iload_n X dX7_blank_0 rfl 1 rfl ?_
  obtain ⟨r2, h1, hf⟩ := zb1_sp hf
  refine gc_X7_93 (st := []) X (mtX7_isCard κ.2.1 κ.2.2.2.2.2.2.2.2.2.2.1 G  h1) rfl rfl (Nat.le_of_ble_eq_true rfl) (Nat.le_of_ble_eq_true rfl) (Nat.le_of_ble_eq_true rfl) dX7_blank_1 ?_
  refine z_if_ne (tgt := 13) X dX7_blank_4 (by decide) (fun h25 => ?_) (fun h25 => ?_)
  · have hf := zf h25 hf
    refine z_iload_n X dX7_blank_13 rfl 2 rfl ?_
    refine z_iconst (v := (0 : Int32)) X dX7_blank_14 (by decide) ?_
    refine z_iconst (v := (3 : Int32)) X dX7_blank_15 (by decide) ?_
    obtain ⟨r4, h3, hf⟩ := zb1_sp hf
    refine gc_X7_66 (st := []) X (mtX7_within κ.2.1 κ.2.2.2.2.2.2.2.2.2.2.1 G  h3) rfl rfl (Nat.le_of_ble_eq_true rfl) (Nat.le_of_ble_eq_true rfl) (Nat.le_of_ble_eq_true rfl) dX7_blank_16 ?_
    refine z_if_eq (tgt := 28) X dX7_blank_19 (by decide) (fun h21 => ?_) (fun h21 => ?_)
    · have hf := zt h21 hf
      refine z_aload_n X dX7_blank_28 rfl 0 rfl ?_
      refine z_bipush (v := (-2 : Int32)) X dX7_blank_29 (by decide) ?_
      obtain ⟨r6, M7, h5, hf⟩ := zb2_sp hf
      refine gc_X7_96 (st := []) X (mtX7_refused κ.2.1 κ.2.2.2.2.2.2.2.2.2.2.1 G  h5) rfl rfl (Nat.le_of_ble_eq_true rfl) (Nat.le_of_ble_eq_true rfl) (Nat.le_of_ble_eq_true rfl) dX7_blank_31 ?_
      exact z_iret X (zR_iM hf Z) dX7_blank_34
    · have hf := zf h21 hf
      refine z_iload_n X dX7_blank_22 rfl 3 rfl ?_
      refine z_bipush (v := (32 : Int32)) X dX7_blank_23 (by decide) ?_
      refine z_icmp_le (tgt := 35) X dX7_blank_25 (by decide) (fun h20 => ?_) (fun h20 => ?_)
      · have hf := zt h20 hf
        refine z_iload_n X dX7_blank_35 rfl 3 rfl ?_
        refine z_if_ge (tgt := 45) X dX7_blank_36 (by decide) (fun h16 => ?_) (fun h16 => ?_)
        · have hf := zt h16 hf
          refine z_aload_n X dX7_blank_45 rfl 0 rfl ?_
          refine z_iload_n X dX7_blank_46 rfl 1 rfl ?_
          refine z_iload_n X dX7_blank_47 rfl 2 rfl ?_
          refine z_iload_n X dX7_blank_48 rfl 3 rfl ?_
          obtain ⟨M9, h8, hf⟩ := zb1_sp hf
          refine gc_X7_103 (st := []) X (mtX7_clears κ.2.1 κ.2.2.2.2.2.2.2.2.2.2.1 G  h8) rfl rfl (Nat.le_of_ble_eq_true rfl) (Nat.le_of_ble_eq_true rfl) (Nat.le_of_ble_eq_true rfl) dX7_blank_49 ?_
          refine z_aload_n X dX7_blank_52 rfl 0 rfl ?_
          refine z_iconst (v := (1 : Int32)) X dX7_blank_53 (by decide) ?_
          obtain ⟨r11, M12, h10, hf⟩ := zb2_sp hf
          refine gc_X7_96 (st := []) X (mtX7_refused κ.2.1 κ.2.2.2.2.2.2.2.2.2.2.1 G  h10) rfl rfl (Nat.le_of_ble_eq_true rfl) (Nat.le_of_ble_eq_true rfl) (Nat.le_of_ble_eq_true rfl) dX7_blank_54 ?_
          exact z_iret X (zR_iM hf Z) dX7_blank_57
        · have hf := zf h16 hf
          refine z_aload_n X dX7_blank_39 rfl 0 rfl ?_
          refine z_iconst (v := (4 : Int32)) X dX7_blank_40 (by decide) ?_
          obtain ⟨r14, M15, h13, hf⟩ := zb2_sp hf
          refine gc_X7_100 (st := []) X (mtX7_fails κ.2.1 κ.2.2.2.2.2.2.2.2.2.2.1 G  h13) rfl rfl (Nat.le_of_ble_eq_true rfl) (Nat.le_of_ble_eq_true rfl) (Nat.le_of_ble_eq_true rfl) dX7_blank_41 ?_
          exact z_iret X (zR_iM hf Z) dX7_blank_44
      · have hf := zf h20 hf
        refine z_aload_n X dX7_blank_28 rfl 0 rfl ?_
        refine z_bipush (v := (-2 : Int32)) X dX7_blank_29 (by decide) ?_
        obtain ⟨r18, M19, h17, hf⟩ := zb2_sp hf
        refine gc_X7_96 (st := []) X (mtX7_refused κ.2.1 κ.2.2.2.2.2.2.2.2.2.2.1 G  h17) rfl rfl (Nat.le_of_ble_eq_true rfl) (Nat.le_of_ble_eq_true rfl) (Nat.le_of_ble_eq_true rfl) dX7_blank_31 ?_
        exact z_iret X (zR_iM hf Z) dX7_blank_34
  · have hf := zt h25 hf
    refine z_aload_n X dX7_blank_7 rfl 0 rfl ?_
    refine z_iconst (v := (-1 : Int32)) X dX7_blank_8 (by decide) ?_
    obtain ⟨r23, M24, h22, hf⟩ := zb2_sp hf
    refine gc_X7_96 (st := []) X (mtX7_refused κ.2.1 κ.2.2.2.2.2.2.2.2.2.2.1 G  h22) rfl rfl (Nat.le_of_ble_eq_true rfl) (Nat.le_of_ble_eq_true rfl) (Nat.le_of_ble_eq_true rfl) dX7_blank_9 ?_
    exact z_iret X (zR_iM hf Z) dX7_blank_12
set_option maxHeartbeats 4000000 in
set_option maxRecDepth 100000 in
theorem mtX7_against (l : Launch) (D : va_G) (G : zG) {p1 : Int32} {p2 : Int32} {M : zMem} {F : Int64} {ro : Int32} (hf : fX7_against p1 p2 M = some ro) : zCM l yX7_against wX7_against { frames := 1, cells := 0, slots := 0, locals := 22 } D G [.ref (G.1 60), .int p1, .int p2] M F (some (.int ro)) M F := by
  refine zCM.ofV (own := RX7) (cc := cX7_against) (maxL := 3) (ret := (some .int)) (lv := [(0, .ref (G.1 60)), (1, .int p1), (2, .int p2)]) (by decide) rfl rfl (Nat.le_of_ble_eq_true rfl) rfl (fun κ X Z hm hκ1 hκ2 => ?_)
  subst hκ1 hκ2
  unfold fX7_against at hf
  refine z_aload_n X dX7_against_0 rfl 0 rfl ?_
  refine gf_X7_17 X dX7_against_1 ?_
  refine z_iload_n X dX7_against_4 rfl 1 rfl ?_
  obtain ⟨h1, hf⟩ := zc_sp hf
  refine z_iald X zc_62 zl_62 (zin_sp h1) dX7_against_5 ?_
  refine z_bipush (v := (-9 : Int32)) X dX7_against_6 (by decide) ?_
  obtain ⟨k3, k3e, hf⟩ := zj_sp hf
  have hj4 : ∀ (x2 : Int32), k3 x2 = some ro → zV κ G 36 [(0, .ref (G.1 60)), (1, .int p1), (2, .int p2)] [.int x2] M F := by
    intro x2 hf
    rw [k3e] at hf
    exact z_iret X (zR_i hf Z) dX7_against_36
  clear k3e
  refine z_icmp_ne (tgt := 15) X dX7_against_8 (by decide) (fun h9 => ?_) (fun h9 => ?_)
  · have hf := zf h9 hf
    refine z_iload_n X dX7_against_15 rfl 2 rfl ?_
    refine z_iconst (v := (0 : Int32)) X dX7_against_16 (by decide) ?_
    refine z_aload_n X dX7_against_17 rfl 0 rfl ?_
    refine gf_X7_21 X dX7_against_18 ?_
    refine z_iload_n X dX7_against_21 rfl 1 rfl ?_
    obtain ⟨h5, hf⟩ := zc_sp hf
    refine z_iald X zc_63 zl_63 (zin_sp h5) dX7_against_22 ?_
    refine z_iconst (v := (1 : Int32)) X dX7_against_23 (by decide) ?_
    refine z_isub X dX7_against_24 ?_
    obtain ⟨r7, h6, hf⟩ := zb1_sp hf
    refine gc_X7_66 (st := []) X (mtX7_within κ.2.1 κ.2.2.2.2.2.2.2.2.2.2.1 G  h6) rfl rfl (Nat.le_of_ble_eq_true rfl) (Nat.le_of_ble_eq_true rfl) (Nat.le_of_ble_eq_true rfl) dX7_against_25 ?_
    refine z_if_eq (tgt := 35) X dX7_against_28 (by decide) (fun h8 => ?_) (fun h8 => ?_)
    · have hf := zt h8 hf
      refine z_iconst (v := (3 : Int32)) X dX7_against_35 (by decide) ?_
      exact hj4 (3 : Int32) hf
    · have hf := zf h8 hf
      refine z_iconst (v := (0 : Int32)) X dX7_against_31 (by decide) ?_
      refine z_goto (tgt := 36) X dX7_against_32 (by decide) ?_
      exact hj4 (0 : Int32) hf
  · have hf := zt h9 hf
    refine z_iconst (v := (1 : Int32)) X dX7_against_11 (by decide) ?_
    refine z_goto (tgt := 36) X dX7_against_12 (by decide) ?_
    exact hj4 (1 : Int32) hf
set_option maxHeartbeats 4000000 in
set_option maxRecDepth 100000 in
theorem mtX7_put (l : Launch) (D : va_G) (G : zG) {p1 : Int32} {p2 : Int32} {p3 : Int32} {M : zMem} {F : Int64} {ro : Int32} {Mo : zMem} (hf : fX7_put p1 p2 p3 M = some (ro, Mo)) : zCM l yX7_put wX7_put { frames := 2, cells := 0, slots := 0, locals := 44 } D G [.ref (G.1 60), .int p1, .int p2, .int p3] M F (some (.int ro)) Mo F := by
  refine zCM.ofV (own := RX7) (cc := cX7_put) (maxL := 5) (ret := (some .int)) (lv := [(0, .ref (G.1 60)), (1, .int p1), (2, .int p2), (3, .int p3)]) (by decide) rfl rfl (Nat.le_of_ble_eq_true rfl) rfl (fun κ X Z hm hκ1 hκ2 => ?_)
  subst hκ1 hκ2
  unfold fX7_put at hf
  refine z_iload_n X dX7_put_0 rfl 1 rfl ?_
  obtain ⟨r2, h1, hf⟩ := zb1_sp hf
  refine gc_X7_93 (st := []) X (mtX7_isCard κ.2.1 κ.2.2.2.2.2.2.2.2.2.2.1 G  h1) rfl rfl (Nat.le_of_ble_eq_true rfl) (Nat.le_of_ble_eq_true rfl) (Nat.le_of_ble_eq_true rfl) dX7_put_1 ?_
  refine z_if_ne (tgt := 13) X dX7_put_4 (by decide) (fun h20 => ?_) (fun h20 => ?_)
  · have hf := zf h20 hf
    refine z_aload_n X dX7_put_13 rfl 0 rfl ?_
    refine z_iload_n X dX7_put_14 rfl 1 rfl ?_
    refine z_iload_n X dX7_put_15 rfl 2 rfl ?_
    obtain ⟨r4, h3, hf⟩ := zb1_sp hf
    refine gc_X7_107 (st := []) X (mtX7_against κ.2.1 κ.2.2.2.2.2.2.2.2.2.2.1 G  h3) rfl rfl (Nat.le_of_ble_eq_true rfl) (Nat.le_of_ble_eq_true rfl) (Nat.le_of_ble_eq_true rfl) dX7_put_16 ?_
    refine z_istore (lv' := [(4, .int r4), (0, .ref (G.1 60)), (1, .int p1), (2, .int p2), (3, .int p3)]) X dX7_put_19 hm (by decide) rfl ?_
    refine z_iload X dX7_put_21 0 rfl ?_
    refine z_if_eq (tgt := 33) X dX7_put_23 (by decide) (fun h16 => ?_) (fun h16 => ?_)
    · have hf := zt h16 hf
      refine z_aload_n X dX7_put_33 rfl 1 rfl ?_
      refine gf_X7_24 X dX7_put_34 ?_
      refine z_bipush (v := (32 : Int32)) X dX7_put_37 (by decide) ?_
      refine z_iload_n X dX7_put_39 rfl 2 rfl ?_
      refine z_imul X dX7_put_40 ?_
      refine z_iload_n X dX7_put_41 rfl 3 rfl ?_
      refine z_iadd X dX7_put_42 ?_
      refine z_aload_n X dX7_put_43 rfl 1 rfl ?_
      refine gf_X7_17 X dX7_put_44 ?_
      refine z_iload_n X dX7_put_47 rfl 2 rfl ?_
      obtain ⟨h5, hf⟩ := zc_sp hf
      refine z_iald X zc_62 zl_62 (zin_sp h5) dX7_put_48 ?_
      refine z_iload_n X dX7_put_49 rfl 4 rfl ?_
      obtain ⟨r7, h6, hf⟩ := zb1_sp hf
      refine gc_X7_111 (st := [.int (((32 : Int32) * p1) + p2), .ref (G.1 64)]) X (mtX7_cut κ.2.1 κ.2.2.2.2.2.2.2.2.2.2.1 G  h6) rfl rfl (Nat.le_of_ble_eq_true rfl) (Nat.le_of_ble_eq_true rfl) (Nat.le_of_ble_eq_true rfl) dX7_put_50 ?_
      obtain ⟨h8, hf⟩ := zc_sp hf
      refine z_iast X zc_64 zl_64 (zin_sp h8) dX7_put_53 ?_
      refine z_nmM hf (fun M9 hf => ?_)
      refine z_aload_n X dX7_put_54 rfl 1 rfl ?_
      refine z_iconst (v := (1 : Int32)) X dX7_put_55 (by decide) ?_
      obtain ⟨r11, M12, h10, hf⟩ := zb2_sp hf
      refine gc_X7_96 (st := []) X (mtX7_refused κ.2.1 κ.2.2.2.2.2.2.2.2.2.2.1 G  h10) rfl rfl (Nat.le_of_ble_eq_true rfl) (Nat.le_of_ble_eq_true rfl) (Nat.le_of_ble_eq_true rfl) dX7_put_56 ?_
      exact z_iret X (zR_iM hf Z) dX7_put_59
    · have hf := zf h16 hf
      refine z_aload_n X dX7_put_26 rfl 1 rfl ?_
      refine z_iload X dX7_put_27 0 rfl ?_
      obtain ⟨r14, M15, h13, hf⟩ := zb2_sp hf
      refine gc_X7_100 (st := []) X (mtX7_fails κ.2.1 κ.2.2.2.2.2.2.2.2.2.2.1 G  h13) rfl rfl (Nat.le_of_ble_eq_true rfl) (Nat.le_of_ble_eq_true rfl) (Nat.le_of_ble_eq_true rfl) dX7_put_29 ?_
      exact z_iret X (zR_iM hf Z) dX7_put_32
  · have hf := zt h20 hf
    refine z_aload_n X dX7_put_7 rfl 0 rfl ?_
    refine z_iconst (v := (-1 : Int32)) X dX7_put_8 (by decide) ?_
    obtain ⟨r18, M19, h17, hf⟩ := zb2_sp hf
    refine gc_X7_96 (st := []) X (mtX7_refused κ.2.1 κ.2.2.2.2.2.2.2.2.2.2.1 G  h17) rfl rfl (Nat.le_of_ble_eq_true rfl) (Nat.le_of_ble_eq_true rfl) (Nat.le_of_ble_eq_true rfl) dX7_put_9 ?_
    exact z_iret X (zR_iM hf Z) dX7_put_12
set_option maxHeartbeats 4000000 in
set_option maxRecDepth 100000 in
theorem mtX7_get (l : Launch) (D : va_G) (G : zG) {p1 : Int32} {p2 : Int32} {M : zMem} {F : Int64} {ro : Int64} {Mo : zMem} (hf : fX7_get p1 p2 M = some (ro, Mo)) : zCM l yX7_get wX7_get { frames := 2, cells := 0, slots := 0, locals := 44 } D G [.ref (G.1 60), .int p1, .int p2] M F (some (.long ro)) Mo F := by
  refine zCM.ofV (own := RX7) (cc := cX7_get) (maxL := 3) (ret := (some .long)) (lv := [(0, .ref (G.1 60)), (1, .int p1), (2, .int p2)]) (by decide) rfl rfl (Nat.le_of_ble_eq_true rfl) rfl (fun κ X Z hm hκ1 hκ2 => ?_)
  subst hκ1 hκ2
  unfold fX7_get at hf
  refine z_aload_n X dX7_get_0 rfl 0 rfl ?_
  refine z_iconst (v := (0 : Int32)) X dX7_get_1 (by decide) ?_
  refine pf_X7_63 X dX7_get_2 ?_
  refine z_nmM hf (fun M1 hf => ?_)
  refine z_iload_n X dX7_get_5 rfl 1 rfl ?_
  obtain ⟨r3, h2, hf⟩ := zb1_sp hf
  refine gc_X7_93 (st := []) X (mtX7_isCard κ.2.1 κ.2.2.2.2.2.2.2.2.2.2.1 G  h2) rfl rfl (Nat.le_of_ble_eq_true rfl) (Nat.le_of_ble_eq_true rfl) (Nat.le_of_ble_eq_true rfl) dX7_get_6 ?_
  refine z_if_ne (tgt := 16) X dX7_get_9 (by decide) (fun h12 => ?_) (fun h12 => ?_)
  · have hf := zf h12 hf
    refine z_aload_n X dX7_get_16 rfl 0 rfl ?_
    refine z_aload_n X dX7_get_17 rfl 0 rfl ?_
    refine z_iload_n X dX7_get_18 rfl 1 rfl ?_
    refine z_iload_n X dX7_get_19 rfl 2 rfl ?_
    obtain ⟨r5, h4, hf⟩ := zb1_sp hf
    refine gc_X7_107 (st := [.ref (G.1 60)]) X (mtX7_against κ.2.1 κ.2.2.2.2.2.2.2.2.2.2.1 G  h4) rfl rfl (Nat.le_of_ble_eq_true rfl) (Nat.le_of_ble_eq_true rfl) (Nat.le_of_ble_eq_true rfl) dX7_get_20 ?_
    refine pf_X7_63 X dX7_get_23 ?_
    refine z_nmM hf (fun M6 hf => ?_)
    refine z_aload_n X dX7_get_26 rfl 0 rfl ?_
    refine gf_X7_63 X dX7_get_27 ?_
    obtain ⟨k8, k8e, hf⟩ := zj_sp hf
    have hj9 : ∀ (x7 : Int64), k8 x7 = some (ro, Mo) → zV κ G 51 [(0, .ref (G.1 60)), (1, .int p1), (2, .int p2)] [.long x7] M6 F := by
      intro x7 hf
      rw [k8e] at hf
      exact z_lret X (zR_lM hf Z) dX7_get_51
    clear k8e
    refine z_if_ne (tgt := 48) X dX7_get_30 (by decide) (fun h11 => ?_) (fun h11 => ?_)
    · have hf := zf h11 hf
      refine z_ldc2 (v := (-9223372036854775808 : Int64)) X dX7_get_48 (List.mem_cons_of_mem _ zw_9_4) ?_
      exact hj9 (-9223372036854775808 : Int64) hf
    · have hf := zt h11 hf
      refine z_aload_n X dX7_get_33 rfl 0 rfl ?_
      refine gf_X7_24 X dX7_get_34 ?_
      refine z_bipush (v := (32 : Int32)) X dX7_get_37 (by decide) ?_
      refine z_iload_n X dX7_get_39 rfl 1 rfl ?_
      refine z_imul X dX7_get_40 ?_
      refine z_iload_n X dX7_get_41 rfl 2 rfl ?_
      refine z_iadd X dX7_get_42 ?_
      obtain ⟨h10, hf⟩ := zc_sp hf
      refine z_iald X zc_64 zl_64 (zin_sp h10) dX7_get_43 ?_
      refine z_i2l X dX7_get_44 ?_
      refine z_goto (tgt := 51) X dX7_get_45 (by decide) ?_
      exact hj9 ((M6 64 (((32 : Int32) * p1) + p2).toNatClampNeg).toInt64) hf
  · have hf := zt h12 hf
    refine z_ldc2 (v := (-9223372036854775808 : Int64)) X dX7_get_12 (List.mem_cons_of_mem _ zw_9_4) ?_
    exact z_lret X (zR_lM hf Z) dX7_get_15
set_option maxHeartbeats 4000000 in
set_option maxRecDepth 100000 in
theorem mtX7_copy (l : Launch) (D : va_G) (G : zG) {p1 : Int32} {p2 : Int32} {p3 : Int32} {p4 : Int32} {p5 : Int32} {M : zMem} {F : Int64} {ro : Int32} {Mo : zMem} (hf : fX7_copy p1 p2 p3 p4 p5 M = some (ro, Mo)) : zCM l yX7_copy wX7_copy { frames := 2, cells := 0, slots := 0, locals := 42 } D G [.ref (G.1 60), .int p1, .int p2, .int p3, .int p4, .int p5] M F (some (.int ro)) Mo F := by
  refine zCM.ofV (own := RX7) (cc := cX7_copy) (maxL := 8) (ret := (some .int)) (lv := [(0, .ref (G.1 60)), (1, .int p1), (2, .int p2), (3, .int p3), (4, .int p4), (5, .int p5)]) (by decide) rfl rfl (Nat.le_of_ble_eq_true rfl) rfl (fun κ X Z hm hκ1 hκ2 => ?_)
  subst hκ1 hκ2
  unfold fX7_copy at hf
  refine z_iload_n X dX7_copy_0 rfl 1 rfl ?_
  obtain ⟨r2, h1, hf⟩ := zb1_sp hf
  refine gc_X7_93 (st := []) X (mtX7_isCard κ.2.1 κ.2.2.2.2.2.2.2.2.2.2.1 G  h1) rfl rfl (Nat.le_of_ble_eq_true rfl) (Nat.le_of_ble_eq_true rfl) (Nat.le_of_ble_eq_true rfl) dX7_copy_1 ?_
  refine z_if_eq (tgt := 14) X dX7_copy_4 (by decide) (fun h81 => ?_) (fun h81 => ?_)
  · have hf := zt h81 hf
    refine z_aload_n X dX7_copy_14 rfl 0 rfl ?_
    refine z_iconst (v := (-1 : Int32)) X dX7_copy_15 (by decide) ?_
    obtain ⟨r4, M5, h3, hf⟩ := zb2_sp hf
    refine gc_X7_96 (st := []) X (mtX7_refused κ.2.1 κ.2.2.2.2.2.2.2.2.2.2.1 G  h3) rfl rfl (Nat.le_of_ble_eq_true rfl) (Nat.le_of_ble_eq_true rfl) (Nat.le_of_ble_eq_true rfl) dX7_copy_16 ?_
    exact z_iret X (zR_iM hf Z) dX7_copy_19
  · have hf := zf h81 hf
    refine z_iload_n X dX7_copy_7 rfl 3 rfl ?_
    obtain ⟨r7, h6, hf⟩ := zb1_sp hf
    refine gc_X7_93 (st := []) X (mtX7_isCard κ.2.1 κ.2.2.2.2.2.2.2.2.2.2.1 G  h6) rfl rfl (Nat.le_of_ble_eq_true rfl) (Nat.le_of_ble_eq_true rfl) (Nat.le_of_ble_eq_true rfl) dX7_copy_8 ?_
    refine z_if_ne (tgt := 20) X dX7_copy_11 (by decide) (fun h80 => ?_) (fun h80 => ?_)
    · have hf := zf h80 hf
      refine z_aload_n X dX7_copy_20 rfl 0 rfl ?_
      refine gf_X7_17 X dX7_copy_21 ?_
      refine z_iload_n X dX7_copy_24 rfl 1 rfl ?_
      obtain ⟨h8, hf⟩ := zc_sp hf
      refine z_iald X zc_62 zl_62 (zin_sp h8) dX7_copy_25 ?_
      refine z_bipush (v := (-9 : Int32)) X dX7_copy_26 (by decide) ?_
      refine z_icmp_eq (tgt := 42) X dX7_copy_28 (by decide) (fun h76 => ?_) (fun h76 => ?_)
      · have hf := zt h76 hf
        refine z_aload_n X dX7_copy_42 rfl 0 rfl ?_
        refine z_iconst (v := (1 : Int32)) X dX7_copy_43 (by decide) ?_
        obtain ⟨r10, M11, h9, hf⟩ := zb2_sp hf
        refine gc_X7_100 (st := []) X (mtX7_fails κ.2.1 κ.2.2.2.2.2.2.2.2.2.2.1 G  h9) rfl rfl (Nat.le_of_ble_eq_true rfl) (Nat.le_of_ble_eq_true rfl) (Nat.le_of_ble_eq_true rfl) dX7_copy_44 ?_
        exact z_iret X (zR_iM hf Z) dX7_copy_47
      · have hf := zf h76 hf
        refine z_aload_n X dX7_copy_31 rfl 0 rfl ?_
        refine gf_X7_17 X dX7_copy_32 ?_
        refine z_iload_n X dX7_copy_35 rfl 3 rfl ?_
        obtain ⟨h12, hf⟩ := zc_sp hf
        refine z_iald X zc_62 zl_62 (zin_sp h12) dX7_copy_36 ?_
        refine z_bipush (v := (-9 : Int32)) X dX7_copy_37 (by decide) ?_
        refine z_icmp_ne (tgt := 48) X dX7_copy_39 (by decide) (fun h75 => ?_) (fun h75 => ?_)
        · have hf := zf h75 hf
          refine z_aload_n X dX7_copy_48 rfl 0 rfl ?_
          refine gf_X7_17 X dX7_copy_49 ?_
          refine z_iload_n X dX7_copy_52 rfl 1 rfl ?_
          obtain ⟨h13, hf⟩ := zc_sp hf
          refine z_iald X zc_62 zl_62 (zin_sp h13) dX7_copy_53 ?_
          refine z_aload_n X dX7_copy_54 rfl 0 rfl ?_
          refine gf_X7_17 X dX7_copy_55 ?_
          refine z_iload_n X dX7_copy_58 rfl 3 rfl ?_
          obtain ⟨h14, hf⟩ := zc_sp hf
          refine z_iald X zc_62 zl_62 (zin_sp h14) dX7_copy_59 ?_
          refine z_icmp_eq (tgt := 69) X dX7_copy_60 (by decide) (fun h71 => ?_) (fun h71 => ?_)
          · have hf := zt h71 hf
            refine z_iload_n X dX7_copy_69 rfl 2 rfl ?_
            refine z_if_lt (tgt := 131) X dX7_copy_70 (by decide) (fun h67 => ?_) (fun h67 => ?_)
            · have hf := zt h67 hf
              refine z_aload_n X dX7_copy_131 rfl 0 rfl ?_
              refine z_iconst (v := (3 : Int32)) X dX7_copy_132 (by decide) ?_
              obtain ⟨r16, M17, h15, hf⟩ := zb2_sp hf
              refine gc_X7_100 (st := []) X (mtX7_fails κ.2.1 κ.2.2.2.2.2.2.2.2.2.2.1 G  h15) rfl rfl (Nat.le_of_ble_eq_true rfl) (Nat.le_of_ble_eq_true rfl) (Nat.le_of_ble_eq_true rfl) dX7_copy_133 ?_
              exact z_iret X (zR_iM hf Z) dX7_copy_136
            · have hf := zf h67 hf
              refine z_iload X dX7_copy_73 4 rfl ?_
              refine z_if_lt (tgt := 131) X dX7_copy_75 (by decide) (fun h66 => ?_) (fun h66 => ?_)
              · have hf := zt h66 hf
                refine z_aload_n X dX7_copy_131 rfl 0 rfl ?_
                refine z_iconst (v := (3 : Int32)) X dX7_copy_132 (by decide) ?_
                obtain ⟨r19, M20, h18, hf⟩ := zb2_sp hf
                refine gc_X7_100 (st := []) X (mtX7_fails κ.2.1 κ.2.2.2.2.2.2.2.2.2.2.1 G  h18) rfl rfl (Nat.le_of_ble_eq_true rfl) (Nat.le_of_ble_eq_true rfl) (Nat.le_of_ble_eq_true rfl) dX7_copy_133 ?_
                exact z_iret X (zR_iM hf Z) dX7_copy_136
              · have hf := zf h66 hf
                refine z_iload X dX7_copy_78 5 rfl ?_
                refine z_if_lt (tgt := 131) X dX7_copy_80 (by decide) (fun h65 => ?_) (fun h65 => ?_)
                · have hf := zt h65 hf
                  refine z_aload_n X dX7_copy_131 rfl 0 rfl ?_
                  refine z_iconst (v := (3 : Int32)) X dX7_copy_132 (by decide) ?_
                  obtain ⟨r22, M23, h21, hf⟩ := zb2_sp hf
                  refine gc_X7_100 (st := []) X (mtX7_fails κ.2.1 κ.2.2.2.2.2.2.2.2.2.2.1 G  h21) rfl rfl (Nat.le_of_ble_eq_true rfl) (Nat.le_of_ble_eq_true rfl) (Nat.le_of_ble_eq_true rfl) dX7_copy_133 ?_
                  exact z_iret X (zR_iM hf Z) dX7_copy_136
                · have hf := zf h65 hf
                  refine z_iload_n X dX7_copy_83 rfl 2 rfl ?_
                  refine z_aload_n X dX7_copy_84 rfl 0 rfl ?_
                  refine gf_X7_21 X dX7_copy_85 ?_
                  refine z_iload_n X dX7_copy_88 rfl 1 rfl ?_
                  obtain ⟨h24, hf⟩ := zc_sp hf
                  refine z_iald X zc_63 zl_63 (zin_sp h24) dX7_copy_89 ?_
                  refine z_icmp_gt (tgt := 131) X dX7_copy_90 (by decide) (fun h64 => ?_) (fun h64 => ?_)
                  · have hf := zt h64 hf
                    refine z_aload_n X dX7_copy_131 rfl 0 rfl ?_
                    refine z_iconst (v := (3 : Int32)) X dX7_copy_132 (by decide) ?_
                    obtain ⟨r26, M27, h25, hf⟩ := zb2_sp hf
                    refine gc_X7_100 (st := []) X (mtX7_fails κ.2.1 κ.2.2.2.2.2.2.2.2.2.2.1 G  h25) rfl rfl (Nat.le_of_ble_eq_true rfl) (Nat.le_of_ble_eq_true rfl) (Nat.le_of_ble_eq_true rfl) dX7_copy_133 ?_
                    exact z_iret X (zR_iM hf Z) dX7_copy_136
                  · have hf := zf h64 hf
                    refine z_iload X dX7_copy_93 4 rfl ?_
                    refine z_aload_n X dX7_copy_95 rfl 0 rfl ?_
                    refine gf_X7_21 X dX7_copy_96 ?_
                    refine z_iload_n X dX7_copy_99 rfl 3 rfl ?_
                    obtain ⟨h28, hf⟩ := zc_sp hf
                    refine z_iald X zc_63 zl_63 (zin_sp h28) dX7_copy_100 ?_
                    refine z_icmp_gt (tgt := 131) X dX7_copy_101 (by decide) (fun h63 => ?_) (fun h63 => ?_)
                    · have hf := zt h63 hf
                      refine z_aload_n X dX7_copy_131 rfl 0 rfl ?_
                      refine z_iconst (v := (3 : Int32)) X dX7_copy_132 (by decide) ?_
                      obtain ⟨r30, M31, h29, hf⟩ := zb2_sp hf
                      refine gc_X7_100 (st := []) X (mtX7_fails κ.2.1 κ.2.2.2.2.2.2.2.2.2.2.1 G  h29) rfl rfl (Nat.le_of_ble_eq_true rfl) (Nat.le_of_ble_eq_true rfl) (Nat.le_of_ble_eq_true rfl) dX7_copy_133 ?_
                      exact z_iret X (zR_iM hf Z) dX7_copy_136
                    · have hf := zf h63 hf
                      refine z_iload X dX7_copy_104 5 rfl ?_
                      refine z_aload_n X dX7_copy_106 rfl 0 rfl ?_
                      refine gf_X7_21 X dX7_copy_107 ?_
                      refine z_iload_n X dX7_copy_110 rfl 1 rfl ?_
                      obtain ⟨h32, hf⟩ := zc_sp hf
                      refine z_iald X zc_63 zl_63 (zin_sp h32) dX7_copy_111 ?_
                      refine z_iload_n X dX7_copy_112 rfl 2 rfl ?_
                      refine z_isub X dX7_copy_113 ?_
                      refine z_icmp_gt (tgt := 131) X dX7_copy_114 (by decide) (fun h62 => ?_) (fun h62 => ?_)
                      · have hf := zt h62 hf
                        refine z_aload_n X dX7_copy_131 rfl 0 rfl ?_
                        refine z_iconst (v := (3 : Int32)) X dX7_copy_132 (by decide) ?_
                        obtain ⟨r34, M35, h33, hf⟩ := zb2_sp hf
                        refine gc_X7_100 (st := []) X (mtX7_fails κ.2.1 κ.2.2.2.2.2.2.2.2.2.2.1 G  h33) rfl rfl (Nat.le_of_ble_eq_true rfl) (Nat.le_of_ble_eq_true rfl) (Nat.le_of_ble_eq_true rfl) dX7_copy_133 ?_
                        exact z_iret X (zR_iM hf Z) dX7_copy_136
                      · have hf := zf h62 hf
                        refine z_iload X dX7_copy_117 5 rfl ?_
                        refine z_aload_n X dX7_copy_119 rfl 0 rfl ?_
                        refine gf_X7_21 X dX7_copy_120 ?_
                        refine z_iload_n X dX7_copy_123 rfl 3 rfl ?_
                        obtain ⟨h36, hf⟩ := zc_sp hf
                        refine z_iald X zc_63 zl_63 (zin_sp h36) dX7_copy_124 ?_
                        refine z_iload X dX7_copy_125 4 rfl ?_
                        refine z_isub X dX7_copy_127 ?_
                        refine z_icmp_le (tgt := 137) X dX7_copy_128 (by decide) (fun h61 => ?_) (fun h61 => ?_)
                        · have hf := zt h61 hf
                          refine z_iconst (v := (0 : Int32)) X dX7_copy_137 (by decide) ?_
                          refine z_istore (lv' := [(6, .int (0 : Int32)), (0, .ref (G.1 60)), (1, .int p1), (2, .int p2), (3, .int p3), (4, .int p4), (5, .int p5)]) X dX7_copy_138 hm (by decide) rfl ?_
                          obtain ⟨b44, hb45, hf⟩ := zb1_sp hf
                          have hX39 : ∀ t, t = b44 → zu2 (fun (x52 : Int32) (M53 : zMem) => zV κ G 202 [(6, .int x52), (0, .ref (G.1 60)), (1, .int p1), (2, .int p2), (3, .int p3), (4, .int p4), (5, .int p5)] [] M53 F) t := by
                            intro t ht
                            subst ht
                            obtain ⟨x52, M53⟩ := t
                            show zV κ G 202 [(6, .int x52), (0, .ref (G.1 60)), (1, .int p1), (2, .int p2), (3, .int p3), (4, .int p4), (5, .int p5)] [] M53 F
                            refine z_aload_n X dX7_copy_202 rfl 1 rfl ?_
                            refine z_iload X dX7_copy_203 6 rfl ?_
                            obtain ⟨r55, M56, h54, hf⟩ := zb2_sp hf
                            refine gc_X7_96 (st := []) X (mtX7_refused κ.2.1 κ.2.2.2.2.2.2.2.2.2.2.1 G  h54) rfl rfl (Nat.le_of_ble_eq_true rfl) (Nat.le_of_ble_eq_true rfl) (Nat.le_of_ble_eq_true rfl) dX7_copy_205 ?_
                            exact z_iret X (zR_iM hf Z) dX7_copy_208
                          refine zlp_walk (P := zu2 (fun (x37 : Int32) (M38 : zMem) => zV κ G 140 [(6, .int x37), (0, .ref (G.1 60)), (1, .int p1), (2, .int p2), (3, .int p3), (4, .int p4), (5, .int p5)] [] M38 F)) (fun a57 w43 hf hi41 hx42 => ?_) _ _ hb45
                          obtain ⟨x37, M38⟩ := a57
                          show zV κ G 140 [(6, .int x37), (0, .ref (G.1 60)), (1, .int p1), (2, .int p2), (3, .int p3), (4, .int p4), (5, .int p5)] [] M38 F
                          replace hf : fX7_copy_L140 p1 p2 p3 p4 p5 x37 M38 = some w43 := hf
                          unfold fX7_copy_L140 at hf
                          refine z_iload X dX7_copy_140 0 rfl ?_
                          refine z_iload X dX7_copy_142 6 rfl ?_
                          refine z_icmp_ge (tgt := 202) X dX7_copy_144 (by decide) (fun h51 => ?_) (fun h51 => ?_)
                          · have hf := zt h51 hf
                            have hq := hX39 _ (hx42 _ (Option.some.inj hf).symm)
                            exact hq
                          · have hf := zf h51 hf
                            refine z_iload_n X dX7_copy_147 rfl 3 rfl ?_
                            refine z_iload X dX7_copy_148 5 rfl ?_
                            have hj : zV κ G 165 [(6, .int x37), (0, .ref (G.1 60)), (1, .int p1), (2, .int p2), (3, .int p3), (4, .int p4), (5, .int p5)] [.int (if p4 ≤ p2 then x37 else ((p5 - (1 : Int32)) - x37))] M38 F := by
                              refine z_nmI hf (fun x47 hf => ?_)
                              refine z_istore (lv' := [(7, .int x47), (6, .int x37), (0, .ref (G.1 60)), (1, .int p1), (2, .int p2), (3, .int p3), (4, .int p4), (5, .int p5)]) X dX7_copy_165 hm (by decide) rfl ?_
                              refine z_aload_n X dX7_copy_167 rfl 2 rfl ?_
                              refine gf_X7_24 X dX7_copy_168 ?_
                              refine z_bipush (v := (32 : Int32)) X dX7_copy_171 (by decide) ?_
                              refine z_iload_n X dX7_copy_173 rfl 5 rfl ?_
                              refine z_imul X dX7_copy_174 ?_
                              refine z_iload X dX7_copy_175 6 rfl ?_
                              refine z_iadd X dX7_copy_177 ?_
                              refine z_iload X dX7_copy_178 0 rfl ?_
                              refine z_iadd X dX7_copy_180 ?_
                              refine z_aload_n X dX7_copy_181 rfl 2 rfl ?_
                              refine gf_X7_24 X dX7_copy_182 ?_
                              refine z_bipush (v := (32 : Int32)) X dX7_copy_185 (by decide) ?_
                              refine z_iload_n X dX7_copy_187 rfl 3 rfl ?_
                              refine z_imul X dX7_copy_188 ?_
                              refine z_iload_n X dX7_copy_189 rfl 4 rfl ?_
                              refine z_iadd X dX7_copy_190 ?_
                              refine z_iload X dX7_copy_191 0 rfl ?_
                              refine z_iadd X dX7_copy_193 ?_
                              obtain ⟨h48, hf⟩ := zc_sp hf
                              refine z_iald X zc_64 zl_64 (zin_sp h48) dX7_copy_194 ?_
                              obtain ⟨h49, hf⟩ := zc_sp hf
                              refine z_iast X zc_64 zl_64 (zin_sp h49) dX7_copy_195 ?_
                              refine z_nmM hf (fun M50 hf => ?_)
                              refine z_iinc (lv' := [(6, .int (x37 + (1 : Int32))), (7, .int x47), (0, .ref (G.1 60)), (1, .int p1), (2, .int p2), (3, .int p3), (4, .int p4), (5, .int p5)]) (v := x37 + (1 : Int32)) X dX7_copy_196 (j := 1) rfl rfl hm (by decide) rfl ?_
                              refine z_goto (tgt := 140) X dX7_copy_199 (by decide) ?_
                              refine z_sub [0, 2, 3, 4, 5, 6, 7] rfl ?_
                              have hq := hi41 _ (Option.some.inj hf).symm
                              exact hq
                            refine z_icmp_ge (tgt := 163) X dX7_copy_150 (by decide) (fun h46 => ?_) (fun h46 => ?_)
                            · try simp only [if_pos h46] at hj
                              refine z_iload X dX7_copy_163 0 rfl ?_
                              exact hj
                            · try simp only [if_neg h46] at hj
                              refine z_iload X dX7_copy_153 6 rfl ?_
                              refine z_iconst (v := (1 : Int32)) X dX7_copy_155 (by decide) ?_
                              refine z_isub X dX7_copy_156 ?_
                              refine z_iload X dX7_copy_157 0 rfl ?_
                              refine z_isub X dX7_copy_159 ?_
                              refine z_goto (tgt := 165) X dX7_copy_160 (by decide) ?_
                              exact hj
                        · have hf := zf h61 hf
                          refine z_aload_n X dX7_copy_131 rfl 0 rfl ?_
                          refine z_iconst (v := (3 : Int32)) X dX7_copy_132 (by decide) ?_
                          obtain ⟨r59, M60, h58, hf⟩ := zb2_sp hf
                          refine gc_X7_100 (st := []) X (mtX7_fails κ.2.1 κ.2.2.2.2.2.2.2.2.2.2.1 G  h58) rfl rfl (Nat.le_of_ble_eq_true rfl) (Nat.le_of_ble_eq_true rfl) (Nat.le_of_ble_eq_true rfl) dX7_copy_133 ?_
                          exact z_iret X (zR_iM hf Z) dX7_copy_136
          · have hf := zf h71 hf
            refine z_aload_n X dX7_copy_63 rfl 0 rfl ?_
            refine z_iconst (v := (2 : Int32)) X dX7_copy_64 (by decide) ?_
            obtain ⟨r69, M70, h68, hf⟩ := zb2_sp hf
            refine gc_X7_100 (st := []) X (mtX7_fails κ.2.1 κ.2.2.2.2.2.2.2.2.2.2.1 G  h68) rfl rfl (Nat.le_of_ble_eq_true rfl) (Nat.le_of_ble_eq_true rfl) (Nat.le_of_ble_eq_true rfl) dX7_copy_65 ?_
            exact z_iret X (zR_iM hf Z) dX7_copy_68
        · have hf := zt h75 hf
          refine z_aload_n X dX7_copy_42 rfl 0 rfl ?_
          refine z_iconst (v := (1 : Int32)) X dX7_copy_43 (by decide) ?_
          obtain ⟨r73, M74, h72, hf⟩ := zb2_sp hf
          refine gc_X7_100 (st := []) X (mtX7_fails κ.2.1 κ.2.2.2.2.2.2.2.2.2.2.1 G  h72) rfl rfl (Nat.le_of_ble_eq_true rfl) (Nat.le_of_ble_eq_true rfl) (Nat.le_of_ble_eq_true rfl) dX7_copy_44 ?_
          exact z_iret X (zR_iM hf Z) dX7_copy_47
    · have hf := zt h80 hf
      refine z_aload_n X dX7_copy_14 rfl 0 rfl ?_
      refine z_iconst (v := (-1 : Int32)) X dX7_copy_15 (by decide) ?_
      obtain ⟨r78, M79, h77, hf⟩ := zb2_sp hf
      refine gc_X7_96 (st := []) X (mtX7_refused κ.2.1 κ.2.2.2.2.2.2.2.2.2.2.1 G  h77) rfl rfl (Nat.le_of_ble_eq_true rfl) (Nat.le_of_ble_eq_true rfl) (Nat.le_of_ble_eq_true rfl) dX7_copy_16 ?_
      exact z_iret X (zR_iM hf Z) dX7_copy_19
set_option maxHeartbeats 4000000 in
set_option maxRecDepth 100000 in
theorem mtX7_lose (l : Launch) (D : va_G) (G : zG) {p1 : Int32} {M : zMem} {F : Int64} {ro : Int32} {Mo : zMem} (hf : fX7_lose p1 M = some (ro, Mo)) : zCM l yX7_lose wX7_lose { frames := 2, cells := 0, slots := 0, locals := 42 } D G [.ref (G.1 60), .int p1] M F (some (.int ro)) Mo F := by
  refine zCM.ofV (own := RX7) (cc := cX7_lose) (maxL := 3) (ret := (some .int)) (lv := [(0, .ref (G.1 60)), (1, .int p1)]) (by decide) rfl rfl (Nat.le_of_ble_eq_true rfl) rfl (fun κ X Z hm hκ1 hκ2 => ?_)
  subst hκ1 hκ2
  unfold fX7_lose at hf
  refine z_iload_n X dX7_lose_0 rfl 1 rfl ?_
  obtain ⟨r2, h1, hf⟩ := zb1_sp hf
  refine gc_X7_93 (st := []) X (mtX7_isCard κ.2.1 κ.2.2.2.2.2.2.2.2.2.2.1 G  h1) rfl rfl (Nat.le_of_ble_eq_true rfl) (Nat.le_of_ble_eq_true rfl) (Nat.le_of_ble_eq_true rfl) dX7_lose_1 ?_
  refine z_if_ne (tgt := 9) X dX7_lose_4 (by decide) (fun h8 => ?_) (fun h8 => ?_)
  · have hf := zf h8 hf
    refine z_aload_n X dX7_lose_9 rfl 0 rfl ?_
    refine gf_X7_17 X dX7_lose_10 ?_
    refine z_iload_n X dX7_lose_13 rfl 1 rfl ?_
    obtain ⟨h3, hf⟩ := zc_sp hf
    refine z_iald X zc_62 zl_62 (zin_sp h3) dX7_lose_14 ?_
    refine z_bipush (v := (-9 : Int32)) X dX7_lose_15 (by decide) ?_
    have hj : zV κ G 25 [(0, .ref (G.1 60)), (1, .int p1)] [.int (if (M 62 p1.toNatClampNeg) = (-9 : Int32) then (0 : Int32) else (1 : Int32))] M F := by
      refine z_nmI hf (fun x5 hf => ?_)
      refine z_istore_n (lv' := [(2, .int x5), (0, .ref (G.1 60)), (1, .int p1)]) X dX7_lose_25 rfl hm (by decide) rfl ?_
      refine z_aload_n X dX7_lose_26 rfl 1 rfl ?_
      refine gf_X7_17 X dX7_lose_27 ?_
      refine z_iload_n X dX7_lose_30 rfl 2 rfl ?_
      refine z_bipush (v := (-9 : Int32)) X dX7_lose_31 (by decide) ?_
      obtain ⟨h6, hf⟩ := zc_sp hf
      refine z_iast X zc_62 zl_62 (zin_sp h6) dX7_lose_33 ?_
      refine z_nmM hf (fun M7 hf => ?_)
      refine z_iload_n X dX7_lose_34 rfl 0 rfl ?_
      exact z_iret X (zR_iM hf Z) dX7_lose_35
    refine z_icmp_ne (tgt := 24) X dX7_lose_17 (by decide) (fun h4 => ?_) (fun h4 => ?_)
    · try simp only [if_neg h4] at hj
      refine z_iconst (v := (1 : Int32)) X dX7_lose_24 (by decide) ?_
      exact hj
    · try simp only [if_pos h4] at hj
      refine z_iconst (v := (0 : Int32)) X dX7_lose_20 (by decide) ?_
      refine z_goto (tgt := 25) X dX7_lose_21 (by decide) ?_
      exact hj
  · have hf := zt h8 hf
    refine z_iconst (v := (-1 : Int32)) X dX7_lose_7 (by decide) ?_
    exact z_iret X (zR_iM hf Z) dX7_lose_8
set_option maxHeartbeats 4000000 in
set_option maxRecDepth 100000 in
theorem mtX7_down (l : Launch) (D : va_G) (G : zG) {p0 : Int32} {p1 : Int32} {M : zMem} {F : Int64} {ro : Int32} (hf : fX7_down p0 p1 = some ro) : zCM l yX7_down wX7_down { frames := 0, cells := 0, slots := 0, locals := 0 } D G [.int p0, .int p1] M F (some (.int ro)) M F := by
  refine zCM.ofV (own := RX7) (cc := cX7_down) (maxL := 2) (ret := (some .int)) (lv := [(0, .int p0), (1, .int p1)]) (by decide) rfl rfl (Nat.le_of_ble_eq_true rfl) rfl (fun κ X Z hm hκ1 hκ2 => ?_)
  subst hκ1 hκ2
  unfold fX7_down at hf
  refine z_iload_n X dX7_down_0 rfl 0 rfl ?_
  obtain ⟨k2, k2e, hf⟩ := zj_sp hf
  have hj3 : ∀ (x1 : Int32), k2 x1 = some ro → zV κ G 18 [(0, .int p0), (1, .int p1)] [.int x1] M F := by
    intro x1 hf
    rw [k2e] at hf
    exact z_iret X (zR_i hf Z) dX7_down_18
  clear k2e
  refine z_if_lt (tgt := 10) X dX7_down_1 (by decide) (fun h6 => ?_) (fun h6 => ?_)
  · have hf := zt h6 hf
    refine z_iload_n X dX7_down_10 rfl 1 rfl ?_
    refine z_iconst (v := (1 : Int32)) X dX7_down_11 (by decide) ?_
    refine z_isub X dX7_down_12 ?_
    refine z_iload_n X dX7_down_13 rfl 0 rfl ?_
    refine z_isub X dX7_down_14 ?_
    refine z_iload_n X dX7_down_15 rfl 1 rfl ?_
    obtain ⟨h4, hf⟩ := zc_sp hf
    refine z_idiv X dX7_down_16 (of_decide_eq_true h4) ?_
    refine z_ineg X dX7_down_17 ?_
    exact hj3 (-(((p1 - (1 : Int32)) - p0) / p1)) hf
  · have hf := zf h6 hf
    refine z_iload_n X dX7_down_4 rfl 0 rfl ?_
    refine z_iload_n X dX7_down_5 rfl 1 rfl ?_
    obtain ⟨h5, hf⟩ := zc_sp hf
    refine z_idiv X dX7_down_6 (of_decide_eq_true h5) ?_
    refine z_goto (tgt := 18) X dX7_down_7 (by decide) ?_
    exact hj3 (p0 / p1) hf
set_option maxHeartbeats 4000000 in
set_option maxRecDepth 100000 in
theorem mtX7_rounded (l : Launch) (D : va_G) (G : zG) {p0 : Int32} {p1 : Int32} {M : zMem} {F : Int64} {ro : Int32} (hf : fX7_rounded p0 p1 = some ro) : zCM l yX7_rounded wX7_rounded { frames := 1, cells := 0, slots := 0, locals := 21 } D G [.int p0, .int p1] M F (some (.int ro)) M F := by
  refine zCM.ofV (own := RX7) (cc := cX7_rounded) (maxL := 2) (ret := (some .int)) (lv := [(0, .int p0), (1, .int p1)]) (by decide) rfl rfl (Nat.le_of_ble_eq_true rfl) rfl (fun κ X Z hm hκ1 hκ2 => ?_)
  subst hκ1 hκ2
  unfold fX7_rounded at hf
  refine z_iconst (v := (2 : Int32)) X dX7_rounded_0 (by decide) ?_
  refine z_iload_n X dX7_rounded_1 rfl 0 rfl ?_
  refine z_imul X dX7_rounded_2 ?_
  refine z_iload_n X dX7_rounded_3 rfl 1 rfl ?_
  refine z_iadd X dX7_rounded_4 ?_
  refine z_iconst (v := (2 : Int32)) X dX7_rounded_5 (by decide) ?_
  refine z_iload_n X dX7_rounded_6 rfl 1 rfl ?_
  refine z_imul X dX7_rounded_7 ?_
  obtain ⟨r2, h1, hf⟩ := zb1_sp hf
  refine gc_X7_114 (st := []) X (mtX7_down κ.2.1 κ.2.2.2.2.2.2.2.2.2.2.1 G  h1) rfl rfl (Nat.le_of_ble_eq_true rfl) (Nat.le_of_ble_eq_true rfl) (Nat.le_of_ble_eq_true rfl) dX7_rounded_8 ?_
  exact z_iret X (zR_i hf Z) dX7_rounded_11
set_option maxHeartbeats 4000000 in
set_option maxRecDepth 100000 in
theorem mtX7_isAxis (l : Launch) (D : va_G) (G : zG) {p0 : Int32} {M : zMem} {F : Int64} {ro : Int32} (hf : fX7_isAxis p0 = some ro) : zCM l yX7_isAxis wX7_isAxis { frames := 1, cells := 0, slots := 0, locals := 22 } D G [.int p0] M F (some (.int ro)) M F := by
  refine zCM.ofV (own := RX7) (cc := cX7_isAxis) (maxL := 1) (ret := (some .boolean)) (lv := [(0, .int p0)]) (by decide) rfl rfl (Nat.le_of_ble_eq_true rfl) rfl (fun κ X Z hm hκ1 hκ2 => ?_)
  subst hκ1 hκ2
  unfold fX7_isAxis at hf
  refine z_iload_n X dX7_isAxis_0 rfl 0 rfl ?_
  refine z_iconst (v := (0 : Int32)) X dX7_isAxis_1 (by decide) ?_
  refine z_iconst (v := (1 : Int32)) X dX7_isAxis_2 (by decide) ?_
  obtain ⟨r2, h1, hf⟩ := zb1_sp hf
  refine gc_X7_66 (st := []) X (mtX7_within κ.2.1 κ.2.2.2.2.2.2.2.2.2.2.1 G  h1) rfl rfl (Nat.le_of_ble_eq_true rfl) (Nat.le_of_ble_eq_true rfl) (Nat.le_of_ble_eq_true rfl) dX7_isAxis_3 ?_
  obtain ⟨h3, hf⟩ := zc_sp hf
  exact z_zret X (z01_sp h3) (zR_i hf Z) dX7_isAxis_6
set_option maxHeartbeats 4000000 in
set_option maxRecDepth 100000 in
theorem mtX7_isShear (l : Launch) (D : va_G) (G : zG) {p0 : Int32} {M : zMem} {F : Int64} {ro : Int32} (hf : fX7_isShear p0 = some ro) : zCM l yX7_isShear wX7_isShear { frames := 1, cells := 0, slots := 0, locals := 22 } D G [.int p0] M F (some (.int ro)) M F := by
  refine zCM.ofV (own := RX7) (cc := cX7_isShear) (maxL := 1) (ret := (some .boolean)) (lv := [(0, .int p0)]) (by decide) rfl rfl (Nat.le_of_ble_eq_true rfl) rfl (fun κ X Z hm hκ1 hκ2 => ?_)
  subst hκ1 hκ2
  unfold fX7_isShear at hf
  refine z_iload_n X dX7_isShear_0 rfl 0 rfl ?_
  refine z_bipush (v := (-16 : Int32)) X dX7_isShear_1 (by decide) ?_
  refine z_bipush (v := (16 : Int32)) X dX7_isShear_3 (by decide) ?_
  obtain ⟨r2, h1, hf⟩ := zb1_sp hf
  refine gc_X7_66 (st := []) X (mtX7_within κ.2.1 κ.2.2.2.2.2.2.2.2.2.2.1 G  h1) rfl rfl (Nat.le_of_ble_eq_true rfl) (Nat.le_of_ble_eq_true rfl) (Nat.le_of_ble_eq_true rfl) dX7_isShear_5 ?_
  obtain ⟨h3, hf⟩ := zc_sp hf
  exact z_zret X (z01_sp h3) (zR_i hf Z) dX7_isShear_8
set_option maxHeartbeats 4000000 in
set_option maxRecDepth 100000 in
theorem mtX7_shiftOf (l : Launch) (D : va_G) (G : zG) {p0 : Int32} {p1 : Int32} {p2 : Int32} {M : zMem} {F : Int64} {ro : Int32} (hf : fX7_shiftOf p0 p1 p2 = some ro) : zCM l yX7_shiftOf wX7_shiftOf { frames := 2, cells := 0, slots := 0, locals := 42 } D G [.int p0, .int p1, .int p2] M F (some (.int ro)) M F := by
  refine zCM.ofV (own := RX7) (cc := cX7_shiftOf) (maxL := 3) (ret := (some .int)) (lv := [(0, .int p0), (1, .int p1), (2, .int p2)]) (by decide) rfl rfl (Nat.le_of_ble_eq_true rfl) rfl (fun κ X Z hm hκ1 hκ2 => ?_)
  subst hκ1 hκ2
  unfold fX7_shiftOf at hf
  refine z_iload_n X dX7_shiftOf_0 rfl 1 rfl ?_
  refine z_iload_n X dX7_shiftOf_1 rfl 0 rfl ?_
  have hj : zV κ G 13 [(0, .int p0), (1, .int p1), (2, .int p2)] [.int (if p0 = 0 then p2 else ((31 : Int32) - p2)), .int p1] M F := by
    refine z_imul X dX7_shiftOf_13 ?_
    refine z_bipush (v := (16 : Int32)) X dX7_shiftOf_14 (by decide) ?_
    obtain ⟨r3, h2, hf⟩ := zb1_sp hf
    refine gc_X7_117 (st := []) X (mtX7_rounded κ.2.1 κ.2.2.2.2.2.2.2.2.2.2.1 G  h2) rfl rfl (Nat.le_of_ble_eq_true rfl) (Nat.le_of_ble_eq_true rfl) (Nat.le_of_ble_eq_true rfl) dX7_shiftOf_16 ?_
    exact z_iret X (zR_i hf Z) dX7_shiftOf_19
  refine z_if_ne (tgt := 9) X dX7_shiftOf_2 (by decide) (fun h1 => ?_) (fun h1 => ?_)
  · try simp only [if_neg h1] at hj
    refine z_bipush (v := (31 : Int32)) X dX7_shiftOf_9 (by decide) ?_
    refine z_iload_n X dX7_shiftOf_11 rfl 2 rfl ?_
    refine z_isub X dX7_shiftOf_12 ?_
    exact hj
  · try simp only [if_pos h1] at hj
    refine z_iload_n X dX7_shiftOf_5 rfl 2 rfl ?_
    refine z_goto (tgt := 13) X dX7_shiftOf_6 (by decide) ?_
    exact hj
set_option maxHeartbeats 4000000 in
set_option maxRecDepth 100000 in
theorem mtX7_sheared (l : Launch) (D : va_G) (G : zG) {p0 : Int32} {p1 : Int32} {p2 : Int32} {p3 : Int32} {M : zMem} {F : Int64} {ro : Int32} (hf : fX7_sheared p0 p1 p2 p3 = some ro) : zCM l yX7_sheared wX7_sheared { frames := 3, cells := 0, slots := 0, locals := 64 } D G [.int p0, .int p1, .int p2, .int p3] M F (some (.int ro)) M F := by
  refine zCM.ofV (own := RX7) (cc := cX7_sheared) (maxL := 4) (ret := (some .int)) (lv := [(0, .int p0), (1, .int p1), (2, .int p2), (3, .int p3)]) (by decide) rfl rfl (Nat.le_of_ble_eq_true rfl) rfl (fun κ X Z hm hκ1 hκ2 => ?_)
  subst hκ1 hκ2
  unfold fX7_sheared at hf
  refine z_iload_n X dX7_sheared_0 rfl 0 rfl ?_
  obtain ⟨k2, k2e, hf⟩ := zj_sp hf
  have hj3 : ∀ (x1 : Int32), k2 x1 = some ro → zV κ G 23 [(0, .int p0), (1, .int p1), (2, .int p2), (3, .int p3)] [.int x1] M F := by
    intro x1 hf
    rw [k2e] at hf
    exact z_iret X (zR_i hf Z) dX7_sheared_23
  clear k2e
  refine z_if_ne (tgt := 15) X dX7_sheared_1 (by decide) (fun h8 => ?_) (fun h8 => ?_)
  · have hf := zf h8 hf
    refine z_iload_n X dX7_sheared_15 rfl 2 rfl ?_
    refine z_iload_n X dX7_sheared_16 rfl 0 rfl ?_
    refine z_iload_n X dX7_sheared_17 rfl 1 rfl ?_
    refine z_iload_n X dX7_sheared_18 rfl 3 rfl ?_
    obtain ⟨r5, h4, hf⟩ := zb1_sp hf
    refine gc_X7_120 (st := [.int p2]) X (mtX7_shiftOf κ.2.1 κ.2.2.2.2.2.2.2.2.2.2.1 G  h4) rfl rfl (Nat.le_of_ble_eq_true rfl) (Nat.le_of_ble_eq_true rfl) (Nat.le_of_ble_eq_true rfl) dX7_sheared_19 ?_
    refine z_isub X dX7_sheared_22 ?_
    exact hj3 (p2 - r5) hf
  · have hf := zt h8 hf
    refine z_iload_n X dX7_sheared_4 rfl 3 rfl ?_
    refine z_iload_n X dX7_sheared_5 rfl 0 rfl ?_
    refine z_iload_n X dX7_sheared_6 rfl 1 rfl ?_
    refine z_iload_n X dX7_sheared_7 rfl 2 rfl ?_
    obtain ⟨r7, h6, hf⟩ := zb1_sp hf
    refine gc_X7_120 (st := [.int p3]) X (mtX7_shiftOf κ.2.1 κ.2.2.2.2.2.2.2.2.2.2.1 G  h6) rfl rfl (Nat.le_of_ble_eq_true rfl) (Nat.le_of_ble_eq_true rfl) (Nat.le_of_ble_eq_true rfl) dX7_sheared_8 ?_
    refine z_isub X dX7_sheared_11 ?_
    refine z_goto (tgt := 23) X dX7_sheared_12 (by decide) ?_
    exact hj3 (p3 - r7) hf
set_option maxHeartbeats 4000000 in
set_option maxRecDepth 100000 in
theorem mtX7_shift (l : Launch) (D : va_G) (G : zG) {p1 : Int32} {p2 : Int32} {p3 : Int32} {M : zMem} {F : Int64} {ro : Int32} (hf : fX7_shift p1 p2 p3 M = some ro) : zCM l yX7_shift wX7_shift { frames := 3, cells := 0, slots := 0, locals := 64 } D G [.ref (G.1 60), .int p1, .int p2, .int p3] M F (some (.int ro)) M F := by
  refine zCM.ofV (own := RX7) (cc := cX7_shift) (maxL := 5) (ret := (some .int)) (lv := [(0, .ref (G.1 60)), (1, .int p1), (2, .int p2), (3, .int p3)]) (by decide) rfl rfl (Nat.le_of_ble_eq_true rfl) rfl (fun κ X Z hm hκ1 hκ2 => ?_)
  subst hκ1 hκ2
  unfold fX7_shift at hf
  refine z_iload_n X dX7_shift_0 rfl 1 rfl ?_
  obtain ⟨r2, h1, hf⟩ := zb1_sp hf
  refine gc_X7_124 (st := []) X (mtX7_isAxis κ.2.1 κ.2.2.2.2.2.2.2.2.2.2.1 G  h1) rfl rfl (Nat.le_of_ble_eq_true rfl) (Nat.le_of_ble_eq_true rfl) (Nat.le_of_ble_eq_true rfl) dX7_shift_1 ?_
  refine z_if_eq (tgt := 14) X dX7_shift_4 (by decide) (fun h20 => ?_) (fun h20 => ?_)
  · have hf := zt h20 hf
    refine z_bipush (v := (-2 : Int32)) X dX7_shift_14 (by decide) ?_
    exact z_iret X (zR_i hf Z) dX7_shift_16
  · have hf := zf h20 hf
    refine z_iload_n X dX7_shift_7 rfl 2 rfl ?_
    obtain ⟨r4, h3, hf⟩ := zb1_sp hf
    refine gc_X7_127 (st := []) X (mtX7_isShear κ.2.1 κ.2.2.2.2.2.2.2.2.2.2.1 G  h3) rfl rfl (Nat.le_of_ble_eq_true rfl) (Nat.le_of_ble_eq_true rfl) (Nat.le_of_ble_eq_true rfl) dX7_shift_8 ?_
    refine z_if_ne (tgt := 17) X dX7_shift_11 (by decide) (fun h19 => ?_) (fun h19 => ?_)
    · have hf := zf h19 hf
      refine z_iload_n X dX7_shift_17 rfl 1 rfl ?_
      obtain ⟨k6, k6e, hf⟩ := zj_sp hf
      have hj7 : ∀ (x5 : Int32), k6 x5 = some ro → zV κ G 33 [(0, .ref (G.1 60)), (1, .int p1), (2, .int p2), (3, .int p3)] [.int x5] M F := by
        intro x5 hf
        rw [k6e] at hf
        refine z_istore (lv' := [(4, .int x5), (0, .ref (G.1 60)), (1, .int p1), (2, .int p2), (3, .int p3)]) X dX7_shift_33 hm (by decide) rfl ?_
        refine z_iload X dX7_shift_35 0 rfl ?_
        obtain ⟨k14, k14e, hf⟩ := zj_sp hf
        have hj15 : ∀ (x13 : Int32), k14 x13 = some ro → zV κ G 50 [(4, .int x5), (0, .ref (G.1 60)), (1, .int p1), (2, .int p2), (3, .int p3)] [.int x13] M F := by
          intro x13 hf
          rw [k14e] at hf
          exact z_iret X (zR_i hf Z) dX7_shift_50
        clear k14e
        refine z_if_eq (tgt := 49) X dX7_shift_37 (by decide) (fun h18 => ?_) (fun h18 => ?_)
        · have hf := zt h18 hf
          refine z_iconst (v := (-1 : Int32)) X dX7_shift_49 (by decide) ?_
          exact hj15 (-1 : Int32) hf
        · have hf := zf h18 hf
          refine z_iload_n X dX7_shift_40 rfl 2 rfl ?_
          refine z_iload_n X dX7_shift_41 rfl 3 rfl ?_
          refine z_iload_n X dX7_shift_42 rfl 4 rfl ?_
          obtain ⟨r17, h16, hf⟩ := zb1_sp hf
          refine gc_X7_120 (st := []) X (mtX7_shiftOf κ.2.1 κ.2.2.2.2.2.2.2.2.2.2.1 G  h16) rfl rfl (Nat.le_of_ble_eq_true rfl) (Nat.le_of_ble_eq_true rfl) (Nat.le_of_ble_eq_true rfl) dX7_shift_43 ?_
          refine z_goto (tgt := 50) X dX7_shift_46 (by decide) ?_
          exact hj15 r17 hf
      clear k6e
      refine z_if_ne (tgt := 29) X dX7_shift_18 (by decide) (fun h12 => ?_) (fun h12 => ?_)
      · have hf := zf h12 hf
        refine z_iload_n X dX7_shift_29 rfl 3 rfl ?_
        obtain ⟨r9, h8, hf⟩ := zb1_sp hf
        refine gc_X7_74 (st := []) X (mtX7_isRow κ.2.1 κ.2.2.2.2.2.2.2.2.2.2.1 G  h8) rfl rfl (Nat.le_of_ble_eq_true rfl) (Nat.le_of_ble_eq_true rfl) (Nat.le_of_ble_eq_true rfl) dX7_shift_30 ?_
        exact hj7 r9 hf
      · have hf := zt h12 hf
        refine z_aload_n X dX7_shift_21 rfl 0 rfl ?_
        refine z_iload_n X dX7_shift_22 rfl 3 rfl ?_
        obtain ⟨r11, h10, hf⟩ := zb1_sp hf
        refine gc_X7_70 (st := []) X (mtX7_isColumn κ.2.1 κ.2.2.2.2.2.2.2.2.2.2.1 G  h10) rfl rfl (Nat.le_of_ble_eq_true rfl) (Nat.le_of_ble_eq_true rfl) (Nat.le_of_ble_eq_true rfl) dX7_shift_23 ?_
        refine z_goto (tgt := 33) X dX7_shift_26 (by decide) ?_
        exact hj7 r11 hf
    · have hf := zt h19 hf
      refine z_bipush (v := (-2 : Int32)) X dX7_shift_14 (by decide) ?_
      exact z_iret X (zR_i hf Z) dX7_shift_16
set_option maxHeartbeats 4000000 in
set_option maxRecDepth 100000 in
theorem mtX7_findProfile (l : Launch) (D : va_G) (G : zG) {p1 : Int32} {p2 : Int32} {M : zMem} {F : Int64} {Mo : zMem} (hf : fX7_findProfile p1 p2 M = some Mo) : zCM l yX7_findProfile wX7_findProfile { frames := 4, cells := 0, slots := 0, locals := 87 } D G [.ref (G.1 60), .int p1, .int p2] M F none Mo F := by
  refine zCM.ofV (own := RX7) (cc := cX7_findProfile) (maxL := 5) (ret := none) (lv := [(0, .ref (G.1 60)), (1, .int p1), (2, .int p2)]) (by decide) rfl rfl (Nat.le_of_ble_eq_true rfl) rfl (fun κ X Z hm hκ1 hκ2 => ?_)
  subst hκ1 hκ2
  unfold fX7_findProfile at hf
  refine z_iconst (v := (0 : Int32)) X dX7_findProfile_0 (by decide) ?_
  refine z_istore_n (lv' := [(3, .int (0 : Int32)), (0, .ref (G.1 60)), (1, .int p1), (2, .int p2)]) X dX7_findProfile_1 rfl hm (by decide) rfl ?_
  obtain ⟨b8, hb9, hf⟩ := zb1_sp hf
  have hX3 : ∀ t, t = b8 → zu2 (fun (x13 : Int32) (M14 : zMem) => zV κ G 24 [(3, .int x13), (0, .ref (G.1 60)), (1, .int p1), (2, .int p2)] [] M14 F) t := by
    intro t ht
    subst ht
    obtain ⟨x13, M14⟩ := t
    show zV κ G 24 [(3, .int x13), (0, .ref (G.1 60)), (1, .int p1), (2, .int p2)] [] M14 F
    refine z_iconst (v := (0 : Int32)) X dX7_findProfile_24 (by decide) ?_
    refine z_istore_n (lv' := [(3, .int (0 : Int32)), (0, .ref (G.1 60)), (1, .int p1), (2, .int p2)]) X dX7_findProfile_25 rfl hm (by decide) rfl ?_
    obtain ⟨b22, hb23, hf⟩ := zb1_sp hf
    have hX17 : ∀ t, t = b22 → zu2 (fun (x45 : Int32) (M46 : zMem) => zV κ G 95 [(3, .int x45), (0, .ref (G.1 60)), (1, .int p1), (2, .int p2)] [] M46 F) t := by
      intro t ht
      subst ht
      obtain ⟨x45, M46⟩ := t
      show zV κ G 95 [(3, .int x45), (0, .ref (G.1 60)), (1, .int p1), (2, .int p2)] [] M46 F
      exact z_vret X (zR_M hf Z) dX7_findProfile_95
    refine zlp_walk (P := zu2 (fun (x15 : Int32) (M16 : zMem) => zV κ G 26 [(3, .int x15), (0, .ref (G.1 60)), (1, .int p1), (2, .int p2)] [] M16 F)) (fun a47 w21 hf hi19 hx20 => ?_) _ _ hb23
    obtain ⟨x15, M16⟩ := a47
    show zV κ G 26 [(3, .int x15), (0, .ref (G.1 60)), (1, .int p1), (2, .int p2)] [] M16 F
    replace hf : fX7_findProfile_L26 p1 p2 x15 M16 = some w21 := hf
    unfold fX7_findProfile_L26 at hf
    refine z_iload_n X dX7_findProfile_26 rfl 0 rfl ?_
    refine z_aload_n X dX7_findProfile_27 rfl 1 rfl ?_
    refine gf_X7_7 X dX7_findProfile_28 ?_
    refine z_icmp_ge (tgt := 95) X dX7_findProfile_31 (by decide) (fun h44 => ?_) (fun h44 => ?_)
    · have hf := zt h44 hf
      have hq := hX17 _ (hx20 _ (Option.some.inj hf).symm)
      exact hq
    · have hf := zf h44 hf
      refine z_iconst (v := (0 : Int32)) X dX7_findProfile_34 (by decide) ?_
      refine z_istore (lv' := [(4, .int (0 : Int32)), (3, .int x15), (0, .ref (G.1 60)), (1, .int p1), (2, .int p2)]) X dX7_findProfile_35 hm (by decide) rfl ?_
      obtain ⟨b31, hb32, hf⟩ := zb1_sp hf
      have hX26 : ∀ t, t = b31 → zu2 (fun (x41 : Int32) (M42 : zMem) => zV κ G 89 [(4, .int x41), (3, .int x15), (0, .ref (G.1 60)), (1, .int p1), (2, .int p2)] [] M42 F) t := by
        intro t ht
        subst ht
        obtain ⟨x41, M42⟩ := t
        show zV κ G 89 [(4, .int x41), (3, .int x15), (0, .ref (G.1 60)), (1, .int p1), (2, .int p2)] [] M42 F
        refine z_iinc (lv' := [(3, .int (x15 + (1 : Int32))), (4, .int x41), (0, .ref (G.1 60)), (1, .int p1), (2, .int p2)]) (v := x15 + (1 : Int32)) X dX7_findProfile_89 (j := 1) rfl rfl hm (by decide) rfl ?_
        refine z_goto (tgt := 26) X dX7_findProfile_92 (by decide) ?_
        refine z_sub [0, 2, 3, 4] rfl ?_
        have hq := hi19 _ (Option.some.inj hf).symm
        exact hq
      refine zlp_walk (P := zu2 (fun (x24 : Int32) (M25 : zMem) => zV κ G 37 [(4, .int x24), (3, .int x15), (0, .ref (G.1 60)), (1, .int p1), (2, .int p2)] [] M25 F)) (fun a43 w30 hf hi28 hx29 => ?_) _ _ hb32
      obtain ⟨x24, M25⟩ := a43
      show zV κ G 37 [(4, .int x24), (3, .int x15), (0, .ref (G.1 60)), (1, .int p1), (2, .int p2)] [] M25 F
      replace hf : fX7_findProfile_L37 p1 p2 x15 x24 M25 = some w30 := hf
      unfold fX7_findProfile_L37 at hf
      refine z_iload X dX7_findProfile_37 0 rfl ?_
      refine z_bipush (v := (32 : Int32)) X dX7_findProfile_39 (by decide) ?_
      refine z_icmp_ge (tgt := 89) X dX7_findProfile_41 (by decide) (fun h40 => ?_) (fun h40 => ?_)
      · have hf := zt h40 hf
        have hq := hX26 _ (hx29 _ (Option.some.inj hf).symm)
        exact hq
      · have hf := zf h40 hf
        refine z_aload_n X dX7_findProfile_44 rfl 2 rfl ?_
        refine gf_X7_27 X dX7_findProfile_45 ?_
        refine z_bipush (v := (100 : Int32)) X dX7_findProfile_48 (by decide) ?_
        refine z_iload_n X dX7_findProfile_50 rfl 3 rfl ?_
        refine z_iload_n X dX7_findProfile_51 rfl 4 rfl ?_
        refine z_iload_n X dX7_findProfile_52 rfl 1 rfl ?_
        refine z_iload X dX7_findProfile_53 0 rfl ?_
        obtain ⟨r34, h33, hf⟩ := zb1_sp hf
        refine gc_X7_130 (st := [.int (100 : Int32), .ref (G.1 65)]) X (mtX7_sheared κ.2.1 κ.2.2.2.2.2.2.2.2.2.2.1 G  h33) rfl rfl (Nat.le_of_ble_eq_true rfl) (Nat.le_of_ble_eq_true rfl) (Nat.le_of_ble_eq_true rfl) dX7_findProfile_55 ?_
        refine z_iadd X dX7_findProfile_58 ?_
        refine z_dup2 X dX7_findProfile_59 rfl rfl ?_
        obtain ⟨h35, hf⟩ := zc_sp hf
        refine z_iald X zc_65 zl_65 (zin_sp h35) dX7_findProfile_60 ?_
        refine z_aload_n X dX7_findProfile_61 rfl 2 rfl ?_
        refine gf_X7_13 X dX7_findProfile_62 ?_
        refine z_bipush (v := (32 : Int32)) X dX7_findProfile_65 (by decide) ?_
        refine z_iload_n X dX7_findProfile_67 rfl 1 rfl ?_
        refine z_imul X dX7_findProfile_68 ?_
        refine z_iload X dX7_findProfile_69 0 rfl ?_
        refine z_iadd X dX7_findProfile_71 ?_
        obtain ⟨h36, hf⟩ := zc_sp hf
        refine z_zald X zc_61 zl_61 (zin_sp h36) dX7_findProfile_72 ?_
        have hj : zV κ G 81 [(4, .int x24), (3, .int x15), (0, .ref (G.1 60)), (1, .int p1), (2, .int p2)] [.int (if (M25 61 (((32 : Int32) * x15) + x24).toNatClampNeg) = 0 then (0 : Int32) else (1 : Int32)), .int (M25 65 ((100 : Int32) + r34).toNatClampNeg), .int ((100 : Int32) + r34), .ref (G.1 65)] M25 F := by
          refine z_iadd X dX7_findProfile_81 ?_
          obtain ⟨h38, hf⟩ := zc_sp hf
          refine z_iast X zc_65 zl_65 (zin_sp h38) dX7_findProfile_82 ?_
          refine z_nmM hf (fun M39 hf => ?_)
          refine z_iinc (lv' := [(4, .int (x24 + (1 : Int32))), (3, .int x15), (0, .ref (G.1 60)), (1, .int p1), (2, .int p2)]) (v := x24 + (1 : Int32)) X dX7_findProfile_83 (j := 0) rfl rfl hm (by decide) rfl ?_
          refine z_goto (tgt := 37) X dX7_findProfile_86 (by decide) ?_
          have hq := hi28 _ (Option.some.inj hf).symm
          exact hq
        refine z_if_eq (tgt := 80) X dX7_findProfile_73 (by decide) (fun h37 => ?_) (fun h37 => ?_)
        · try simp only [if_pos h37] at hj
          refine z_iconst (v := (0 : Int32)) X dX7_findProfile_80 (by decide) ?_
          exact hj
        · try simp only [if_neg h37] at hj
          refine z_iconst (v := (1 : Int32)) X dX7_findProfile_76 (by decide) ?_
          refine z_goto (tgt := 81) X dX7_findProfile_77 (by decide) ?_
          exact hj
  refine zlp_walk (P := zu2 (fun (x1 : Int32) (M2 : zMem) => zV κ G 2 [(3, .int x1), (0, .ref (G.1 60)), (1, .int p1), (2, .int p2)] [] M2 F)) (fun a48 w7 hf hi5 hx6 => ?_) _ _ hb9
  obtain ⟨x1, M2⟩ := a48
  show zV κ G 2 [(3, .int x1), (0, .ref (G.1 60)), (1, .int p1), (2, .int p2)] [] M2 F
  replace hf : fX7_findProfile_L2 x1 M2 = some w7 := hf
  unfold fX7_findProfile_L2 at hf
  refine z_iload_n X dX7_findProfile_2 rfl 0 rfl ?_
  refine z_aload_n X dX7_findProfile_3 rfl 1 rfl ?_
  refine gf_X7_27 X dX7_findProfile_4 ?_
  refine z_alen (v := (201 : Int32)) X zc_65 zl_65 ⟨_, rfl⟩ (by decide) dX7_findProfile_7 ?_
  refine z_icmp_ge (tgt := 24) X dX7_findProfile_8 (by decide) (fun h12 => ?_) (fun h12 => ?_)
  · have hf := zt h12 hf
    have hq := hX3 _ (hx6 _ (Option.some.inj hf).symm)
    exact hq
  · have hf := zf h12 hf
    refine z_aload_n X dX7_findProfile_11 rfl 1 rfl ?_
    refine gf_X7_27 X dX7_findProfile_12 ?_
    refine z_iload_n X dX7_findProfile_15 rfl 0 rfl ?_
    refine z_iconst (v := (0 : Int32)) X dX7_findProfile_16 (by decide) ?_
    obtain ⟨h10, hf⟩ := zc_sp hf
    refine z_iast X zc_65 zl_65 (zin_sp h10) dX7_findProfile_17 ?_
    refine z_nmM hf (fun M11 hf => ?_)
    refine z_iinc (lv' := [(3, .int (x1 + (1 : Int32))), (0, .ref (G.1 60)), (1, .int p1), (2, .int p2)]) (v := x1 + (1 : Int32)) X dX7_findProfile_18 (j := 0) rfl rfl hm (by decide) rfl ?_
    refine z_goto (tgt := 2) X dX7_findProfile_21 (by decide) ?_
    have hq := hi5 _ (Option.some.inj hf).symm
    exact hq
set_option maxHeartbeats 4000000 in
set_option maxRecDepth 100000 in
theorem mtX7_profile (l : Launch) (D : va_G) (G : zG) {p1 : Int32} {p2 : Int32} {p3 : Int32} {M : zMem} {F : Int64} {ro : Int32} {Mo : zMem} (hf : fX7_profile p1 p2 p3 M = some (ro, Mo)) : zCM l yX7_profile wX7_profile { frames := 5, cells := 0, slots := 0, locals := 111 } D G [.ref (G.1 60), .int p1, .int p2, .int p3] M F (some (.int ro)) Mo F := by
  refine zCM.ofV (own := RX7) (cc := cX7_profile) (maxL := 4) (ret := (some .int)) (lv := [(0, .ref (G.1 60)), (1, .int p1), (2, .int p2), (3, .int p3)]) (by decide) rfl rfl (Nat.le_of_ble_eq_true rfl) rfl (fun κ X Z hm hκ1 hκ2 => ?_)
  subst hκ1 hκ2
  unfold fX7_profile at hf
  refine z_iload_n X dX7_profile_0 rfl 1 rfl ?_
  obtain ⟨r2, h1, hf⟩ := zb1_sp hf
  refine gc_X7_124 (st := []) X (mtX7_isAxis κ.2.1 κ.2.2.2.2.2.2.2.2.2.2.1 G  h1) rfl rfl (Nat.le_of_ble_eq_true rfl) (Nat.le_of_ble_eq_true rfl) (Nat.le_of_ble_eq_true rfl) dX7_profile_1 ?_
  refine z_if_eq (tgt := 25) X dX7_profile_4 (by decide) (fun h12 => ?_) (fun h12 => ?_)
  · have hf := zt h12 hf
    refine z_bipush (v := (-2 : Int32)) X dX7_profile_25 (by decide) ?_
    exact z_iret X (zR_iM hf Z) dX7_profile_27
  · have hf := zf h12 hf
    refine z_iload_n X dX7_profile_7 rfl 2 rfl ?_
    obtain ⟨r4, h3, hf⟩ := zb1_sp hf
    refine gc_X7_127 (st := []) X (mtX7_isShear κ.2.1 κ.2.2.2.2.2.2.2.2.2.2.1 G  h3) rfl rfl (Nat.le_of_ble_eq_true rfl) (Nat.le_of_ble_eq_true rfl) (Nat.le_of_ble_eq_true rfl) dX7_profile_8 ?_
    refine z_if_eq (tgt := 25) X dX7_profile_11 (by decide) (fun h11 => ?_) (fun h11 => ?_)
    · have hf := zt h11 hf
      refine z_bipush (v := (-2 : Int32)) X dX7_profile_25 (by decide) ?_
      exact z_iret X (zR_iM hf Z) dX7_profile_27
    · have hf := zf h11 hf
      refine z_iload_n X dX7_profile_14 rfl 3 rfl ?_
      refine z_bipush (v := (-99 : Int32)) X dX7_profile_15 (by decide) ?_
      refine z_bipush (v := (99 : Int32)) X dX7_profile_17 (by decide) ?_
      obtain ⟨r6, h5, hf⟩ := zb1_sp hf
      refine gc_X7_66 (st := []) X (mtX7_within κ.2.1 κ.2.2.2.2.2.2.2.2.2.2.1 G  h5) rfl rfl (Nat.le_of_ble_eq_true rfl) (Nat.le_of_ble_eq_true rfl) (Nat.le_of_ble_eq_true rfl) dX7_profile_19 ?_
      refine z_if_ne (tgt := 28) X dX7_profile_22 (by decide) (fun h10 => ?_) (fun h10 => ?_)
      · have hf := zf h10 hf
        refine z_aload_n X dX7_profile_28 rfl 0 rfl ?_
        refine z_iload_n X dX7_profile_29 rfl 1 rfl ?_
        refine z_iload_n X dX7_profile_30 rfl 2 rfl ?_
        obtain ⟨M8, h7, hf⟩ := zb1_sp hf
        refine gc_X7_134 (st := []) X (mtX7_findProfile κ.2.1 κ.2.2.2.2.2.2.2.2.2.2.1 G  h7) rfl rfl (Nat.le_of_ble_eq_true rfl) (Nat.le_of_ble_eq_true rfl) (Nat.le_of_ble_eq_true rfl) dX7_profile_31 ?_
        refine z_aload_n X dX7_profile_34 rfl 0 rfl ?_
        refine gf_X7_27 X dX7_profile_35 ?_
        refine z_bipush (v := (100 : Int32)) X dX7_profile_38 (by decide) ?_
        refine z_iload_n X dX7_profile_40 rfl 3 rfl ?_
        refine z_iadd X dX7_profile_41 ?_
        obtain ⟨h9, hf⟩ := zc_sp hf
        refine z_iald X zc_65 zl_65 (zin_sp h9) dX7_profile_42 ?_
        exact z_iret X (zR_iM hf Z) dX7_profile_43
      · have hf := zt h10 hf
        refine z_bipush (v := (-2 : Int32)) X dX7_profile_25 (by decide) ?_
        exact z_iret X (zR_iM hf Z) dX7_profile_27
set_option maxHeartbeats 4000000 in
set_option maxRecDepth 100000 in
theorem mtX7_sharpness (l : Launch) (D : va_G) (G : zG) {p1 : Int32} {p2 : Int32} {M : zMem} {F : Int64} {ro : Int32} {Mo : zMem} (hf : fX7_sharpness p1 p2 M = some (ro, Mo)) : zCM l yX7_sharpness wX7_sharpness { frames := 5, cells := 0, slots := 0, locals := 111 } D G [.ref (G.1 60), .int p1, .int p2] M F (some (.int ro)) Mo F := by
  refine zCM.ofV (own := RX7) (cc := cX7_sharpness) (maxL := 6) (ret := (some .int)) (lv := [(0, .ref (G.1 60)), (1, .int p1), (2, .int p2)]) (by decide) rfl rfl (Nat.le_of_ble_eq_true rfl) rfl (fun κ X Z hm hκ1 hκ2 => ?_)
  subst hκ1 hκ2
  unfold fX7_sharpness at hf
  refine z_aload_n X dX7_sharpness_0 rfl 0 rfl ?_
  refine z_iload_n X dX7_sharpness_1 rfl 1 rfl ?_
  refine z_iload_n X dX7_sharpness_2 rfl 2 rfl ?_
  obtain ⟨M2, h1, hf⟩ := zb1_sp hf
  refine gc_X7_134 (st := []) X (mtX7_findProfile κ.2.1 κ.2.2.2.2.2.2.2.2.2.2.1 G  h1) rfl rfl (Nat.le_of_ble_eq_true rfl) (Nat.le_of_ble_eq_true rfl) (Nat.le_of_ble_eq_true rfl) dX7_sharpness_3 ?_
  refine z_iconst (v := (0 : Int32)) X dX7_sharpness_6 (by decide) ?_
  refine z_istore_n (lv' := [(3, .int (0 : Int32)), (0, .ref (G.1 60)), (1, .int p1), (2, .int p2)]) X dX7_sharpness_7 rfl hm (by decide) rfl ?_
  refine z_iconst (v := (1 : Int32)) X dX7_sharpness_8 (by decide) ?_
  refine z_istore (lv' := [(4, .int (1 : Int32)), (3, .int (0 : Int32)), (0, .ref (G.1 60)), (1, .int p1), (2, .int p2)]) X dX7_sharpness_9 hm (by decide) rfl ?_
  refine z_sub [0, 1, 2] rfl ?_
  obtain ⟨b10, hb11, hf⟩ := zb1_sp hf
  have hX5 : ∀ t, t = b10 → zu2 (fun (x17 : Int32) (x18 : Int32) => zV κ G 54 [(4, .int x17), (3, .int x18), (0, .ref (G.1 60))] [] M2 F) t := by
    intro t ht
    subst ht
    obtain ⟨x17, x18⟩ := t
    show zV κ G 54 [(4, .int x17), (3, .int x18), (0, .ref (G.1 60))] [] M2 F
    refine z_iload_n X dX7_sharpness_54 rfl 1 rfl ?_
    exact z_iret X (zR_iM hf Z) dX7_sharpness_55
  refine zlp_walk (P := zu2 (fun (x3 : Int32) (x4 : Int32) => zV κ G 11 [(4, .int x3), (3, .int x4), (0, .ref (G.1 60))] [] M2 F)) (fun a19 w9 hf hi7 hx8 => ?_) _ _ hb11
  obtain ⟨x3, x4⟩ := a19
  show zV κ G 11 [(4, .int x3), (3, .int x4), (0, .ref (G.1 60))] [] M2 F
  replace hf : fX7_sharpness_L11 M2 x3 x4 = some w9 := hf
  unfold fX7_sharpness_L11 at hf
  refine z_iload X dX7_sharpness_11 0 rfl ?_
  refine z_aload_n X dX7_sharpness_13 rfl 2 rfl ?_
  refine gf_X7_27 X dX7_sharpness_14 ?_
  refine z_alen (v := (201 : Int32)) X zc_65 zl_65 ⟨_, rfl⟩ (by decide) dX7_sharpness_17 ?_
  refine z_icmp_ge (tgt := 54) X dX7_sharpness_18 (by decide) (fun h16 => ?_) (fun h16 => ?_)
  · have hf := zt h16 hf
    have hq := hX5 _ (hx8 _ (Option.some.inj hf).symm)
    exact hq
  · have hf := zf h16 hf
    refine z_aload_n X dX7_sharpness_21 rfl 2 rfl ?_
    refine gf_X7_27 X dX7_sharpness_22 ?_
    refine z_iload X dX7_sharpness_25 0 rfl ?_
    obtain ⟨h12, hf⟩ := zc_sp hf
    refine z_iald X zc_65 zl_65 (zin_sp h12) dX7_sharpness_27 ?_
    refine z_aload_n X dX7_sharpness_28 rfl 2 rfl ?_
    refine gf_X7_27 X dX7_sharpness_29 ?_
    refine z_iload X dX7_sharpness_32 0 rfl ?_
    refine z_iconst (v := (1 : Int32)) X dX7_sharpness_34 (by decide) ?_
    refine z_isub X dX7_sharpness_35 ?_
    obtain ⟨h13, hf⟩ := zc_sp hf
    refine z_iald X zc_65 zl_65 (zin_sp h13) dX7_sharpness_36 ?_
    refine z_isub X dX7_sharpness_37 ?_
    refine z_nmI hf (fun x14 hf => ?_)
    refine z_istore (lv' := [(5, .int x14), (4, .int x3), (3, .int x4), (0, .ref (G.1 60))]) X dX7_sharpness_38 hm (by decide) rfl ?_
    refine z_iload_n X dX7_sharpness_40 rfl 2 rfl ?_
    refine z_iload X dX7_sharpness_41 0 rfl ?_
    refine z_iload X dX7_sharpness_43 0 rfl ?_
    refine z_imul X dX7_sharpness_45 ?_
    refine z_iadd X dX7_sharpness_46 ?_
    refine z_nmI hf (fun x15 hf => ?_)
    refine z_istore_n (lv' := [(3, .int x15), (5, .int x14), (4, .int x3), (0, .ref (G.1 60))]) X dX7_sharpness_47 rfl hm (by decide) rfl ?_
    refine z_iinc (lv' := [(4, .int (x3 + (1 : Int32))), (3, .int x15), (5, .int x14), (0, .ref (G.1 60))]) (v := x3 + (1 : Int32)) X dX7_sharpness_48 (j := 2) rfl rfl hm (by decide) rfl ?_
    refine z_goto (tgt := 11) X dX7_sharpness_51 (by decide) ?_
    refine z_sub [0, 1, 3] rfl ?_
    have hq := hi7 _ (Option.some.inj hf).symm
    exact hq
set_option maxHeartbeats 4000000 in
set_option maxRecDepth 100000 in
theorem mtX7_sharp (l : Launch) (D : va_G) (G : zG) {p1 : Int32} {p2 : Int32} {M : zMem} {F : Int64} {ro : Int32} {Mo : zMem} (hf : fX7_sharp p1 p2 M = some (ro, Mo)) : zCM l yX7_sharp wX7_sharp { frames := 6, cells := 0, slots := 0, locals := 136 } D G [.ref (G.1 60), .int p1, .int p2] M F (some (.int ro)) Mo F := by
  refine zCM.ofV (own := RX7) (cc := cX7_sharp) (maxL := 3) (ret := (some .int)) (lv := [(0, .ref (G.1 60)), (1, .int p1), (2, .int p2)]) (by decide) rfl rfl (Nat.le_of_ble_eq_true rfl) rfl (fun κ X Z hm hκ1 hκ2 => ?_)
  subst hκ1 hκ2
  unfold fX7_sharp at hf
  refine z_iload_n X dX7_sharp_0 rfl 1 rfl ?_
  obtain ⟨r2, h1, hf⟩ := zb1_sp hf
  refine gc_X7_124 (st := []) X (mtX7_isAxis κ.2.1 κ.2.2.2.2.2.2.2.2.2.2.1 G  h1) rfl rfl (Nat.le_of_ble_eq_true rfl) (Nat.le_of_ble_eq_true rfl) (Nat.le_of_ble_eq_true rfl) dX7_sharp_1 ?_
  obtain ⟨k5, k5e, hf⟩ := zj_sp hf
  have hj6 : ∀ (x3 : Int32) (M4 : zMem), k5 x3 M4 = some (ro, Mo) → zV κ G 25 [(0, .ref (G.1 60)), (1, .int p1), (2, .int p2)] [.int x3] M4 F := by
    intro x3 M4 hf
    rw [k5e] at hf
    exact z_iret X (zR_iM hf Z) dX7_sharp_25
  clear k5e
  refine z_if_eq (tgt := 23) X dX7_sharp_4 (by decide) (fun h13 => ?_) (fun h13 => ?_)
  · have hf := zt h13 hf
    refine z_bipush (v := (-2 : Int32)) X dX7_sharp_23 (by decide) ?_
    exact hj6 (-2 : Int32) M hf
  · have hf := zf h13 hf
    refine z_iload_n X dX7_sharp_7 rfl 2 rfl ?_
    obtain ⟨r8, h7, hf⟩ := zb1_sp hf
    refine gc_X7_127 (st := []) X (mtX7_isShear κ.2.1 κ.2.2.2.2.2.2.2.2.2.2.1 G  h7) rfl rfl (Nat.le_of_ble_eq_true rfl) (Nat.le_of_ble_eq_true rfl) (Nat.le_of_ble_eq_true rfl) dX7_sharp_8 ?_
    refine z_if_eq (tgt := 23) X dX7_sharp_11 (by decide) (fun h12 => ?_) (fun h12 => ?_)
    · have hf := zt h12 hf
      refine z_bipush (v := (-2 : Int32)) X dX7_sharp_23 (by decide) ?_
      exact hj6 (-2 : Int32) M hf
    · have hf := zf h12 hf
      refine z_aload_n X dX7_sharp_14 rfl 0 rfl ?_
      refine z_iload_n X dX7_sharp_15 rfl 1 rfl ?_
      refine z_iload_n X dX7_sharp_16 rfl 2 rfl ?_
      obtain ⟨r10, M11, h9, hf⟩ := zb2_sp hf
      refine gc_X7_138 (st := []) X (mtX7_sharpness κ.2.1 κ.2.2.2.2.2.2.2.2.2.2.1 G  h9) rfl rfl (Nat.le_of_ble_eq_true rfl) (Nat.le_of_ble_eq_true rfl) (Nat.le_of_ble_eq_true rfl) dX7_sharp_17 ?_
      refine z_goto (tgt := 25) X dX7_sharp_20 (by decide) ?_
      exact hj6 r10 M11 hf
set_option maxHeartbeats 4000000 in
set_option maxRecDepth 100000 in
theorem mtX7_far (l : Launch) (D : va_G) (G : zG) {p0 : Int32} {M : zMem} {F : Int64} {ro : Int32} (hf : fX7_far p0 = some ro) : zCM l yX7_far wX7_far { frames := 0, cells := 0, slots := 0, locals := 0 } D G [.int p0] M F (some (.int ro)) M F := by
  refine zCM.ofV (own := RX7) (cc := cX7_far) (maxL := 1) (ret := (some .int)) (lv := [(0, .int p0)]) (by decide) rfl rfl (Nat.le_of_ble_eq_true rfl) rfl (fun κ X Z hm hκ1 hκ2 => ?_)
  subst hκ1 hκ2
  unfold fX7_far at hf
  refine z_iload_n X dX7_far_0 rfl 0 rfl ?_
  have hj : zV κ G 10 [(0, .int p0)] [.int (if 0 ≤ p0 then p0 else (-p0))] M F := by
    exact z_iret X (zR_i hf Z) dX7_far_10
  refine z_if_ge (tgt := 9) X dX7_far_1 (by decide) (fun h1 => ?_) (fun h1 => ?_)
  · try simp only [if_pos h1] at hj
    refine z_iload_n X dX7_far_9 rfl 0 rfl ?_
    exact hj
  · try simp only [if_neg h1] at hj
    refine z_iload_n X dX7_far_4 rfl 0 rfl ?_
    refine z_ineg X dX7_far_5 ?_
    refine z_goto (tgt := 10) X dX7_far_6 (by decide) ?_
    exact hj
set_option maxHeartbeats 4000000 in
set_option maxRecDepth 100000 in
theorem mtX7_isAhead (l : Launch) (D : va_G) (G : zG) {p0 : Int32} {p1 : Int32} {p2 : Int32} {p3 : Int32} {M : zMem} {F : Int64} {ro : Int32} (hf : fX7_isAhead p0 p1 p2 p3 = some ro) : zCM l yX7_isAhead wX7_isAhead { frames := 1, cells := 0, slots := 0, locals := 20 } D G [.int p0, .int p1, .int p2, .int p3] M F (some (.int ro)) M F := by
  refine zCM.ofV (own := RX7) (cc := cX7_isAhead) (maxL := 4) (ret := (some .boolean)) (lv := [(0, .int p0), (1, .int p1), (2, .int p2), (3, .int p3)]) (by decide) rfl rfl (Nat.le_of_ble_eq_true rfl) rfl (fun κ X Z hm hκ1 hκ2 => ?_)
  subst hκ1 hκ2
  unfold fX7_isAhead at hf
  refine z_iload_n X dX7_isAhead_0 rfl 1 rfl ?_
  refine z_iload_n X dX7_isAhead_1 rfl 3 rfl ?_
  refine z_icmp_eq (tgt := 16) X dX7_isAhead_2 (by decide) (fun h17 => ?_) (fun h17 => ?_)
  · have hf := zt h17 hf
    refine z_iload_n X dX7_isAhead_16 rfl 0 rfl ?_
    obtain ⟨r2, h1, hf⟩ := zb1_sp hf
    refine gc_X7_141 (st := []) X (mtX7_far κ.2.1 κ.2.2.2.2.2.2.2.2.2.2.1 G  h1) rfl rfl (Nat.le_of_ble_eq_true rfl) (Nat.le_of_ble_eq_true rfl) (Nat.le_of_ble_eq_true rfl) dX7_isAhead_17 ?_
    refine z_iload_n X dX7_isAhead_20 rfl 2 rfl ?_
    obtain ⟨r4, h3, hf⟩ := zb1_sp hf
    refine gc_X7_141 (st := [.int r2]) X (mtX7_far κ.2.1 κ.2.2.2.2.2.2.2.2.2.2.1 G  h3) rfl rfl (Nat.le_of_ble_eq_true rfl) (Nat.le_of_ble_eq_true rfl) (Nat.le_of_ble_eq_true rfl) dX7_isAhead_21 ?_
    obtain ⟨k6, k6e, hf⟩ := zj_sp hf
    have hj7 : ∀ (x5 : Int32), k6 x5 = some ro → zV κ G 56 [(0, .int p0), (1, .int p1), (2, .int p2), (3, .int p3)] [.int x5] M F := by
      intro x5 hf
      rw [k6e] at hf
      obtain ⟨h15, hf⟩ := zc_sp hf
      exact z_zret X (z01_sp h15) (zR_i hf Z) dX7_isAhead_56
    clear k6e
    refine z_icmp_eq (tgt := 46) X dX7_isAhead_24 (by decide) (fun h14 => ?_) (fun h14 => ?_)
    · have hf := zt h14 hf
      refine z_iload_n X dX7_isAhead_46 rfl 0 rfl ?_
      refine z_iload_n X dX7_isAhead_47 rfl 2 rfl ?_
      refine z_icmp_ge (tgt := 55) X dX7_isAhead_48 (by decide) (fun h8 => ?_) (fun h8 => ?_)
      · have hf := zt h8 hf
        refine z_iconst (v := (0 : Int32)) X dX7_isAhead_55 (by decide) ?_
        exact hj7 (0 : Int32) hf
      · have hf := zf h8 hf
        refine z_iconst (v := (1 : Int32)) X dX7_isAhead_51 (by decide) ?_
        refine z_goto (tgt := 56) X dX7_isAhead_52 (by decide) ?_
        exact hj7 (1 : Int32) hf
    · have hf := zf h14 hf
      refine z_iload_n X dX7_isAhead_27 rfl 0 rfl ?_
      obtain ⟨r10, h9, hf⟩ := zb1_sp hf
      refine gc_X7_141 (st := []) X (mtX7_far κ.2.1 κ.2.2.2.2.2.2.2.2.2.2.1 G  h9) rfl rfl (Nat.le_of_ble_eq_true rfl) (Nat.le_of_ble_eq_true rfl) (Nat.le_of_ble_eq_true rfl) dX7_isAhead_28 ?_
      refine z_iload_n X dX7_isAhead_31 rfl 2 rfl ?_
      obtain ⟨r12, h11, hf⟩ := zb1_sp hf
      refine gc_X7_141 (st := [.int r10]) X (mtX7_far κ.2.1 κ.2.2.2.2.2.2.2.2.2.2.1 G  h11) rfl rfl (Nat.le_of_ble_eq_true rfl) (Nat.le_of_ble_eq_true rfl) (Nat.le_of_ble_eq_true rfl) dX7_isAhead_32 ?_
      refine z_icmp_ge (tgt := 42) X dX7_isAhead_35 (by decide) (fun h13 => ?_) (fun h13 => ?_)
      · have hf := zt h13 hf
        refine z_iconst (v := (0 : Int32)) X dX7_isAhead_42 (by decide) ?_
        refine z_goto (tgt := 56) X dX7_isAhead_43 (by decide) ?_
        exact hj7 (0 : Int32) hf
      · have hf := zf h13 hf
        refine z_iconst (v := (1 : Int32)) X dX7_isAhead_38 (by decide) ?_
        refine z_goto (tgt := 56) X dX7_isAhead_39 (by decide) ?_
        exact hj7 (1 : Int32) hf
  · have hf := zf h17 hf
    refine z_iload_n X dX7_isAhead_5 rfl 1 rfl ?_
    refine z_iload_n X dX7_isAhead_6 rfl 3 rfl ?_
    have hj : zV κ G 15 [(0, .int p0), (1, .int p1), (2, .int p2), (3, .int p3)] [.int (if p1 ≤ p3 then (0 : Int32) else (1 : Int32))] M F := by
      exact z_zret X (z01_ite (Or.inl rfl) (Or.inr rfl)) (zR_i hf Z) dX7_isAhead_15
    refine z_icmp_le (tgt := 14) X dX7_isAhead_7 (by decide) (fun h16 => ?_) (fun h16 => ?_)
    · try simp only [if_pos h16] at hj
      refine z_iconst (v := (0 : Int32)) X dX7_isAhead_14 (by decide) ?_
      exact hj
    · try simp only [if_neg h16] at hj
      refine z_iconst (v := (1 : Int32)) X dX7_isAhead_10 (by decide) ?_
      refine z_goto (tgt := 15) X dX7_isAhead_11 (by decide) ?_
      exact hj
set_option maxHeartbeats 4000000 in
set_option maxRecDepth 100000 in
theorem mtX7_tryIt (l : Launch) (D : va_G) (G : zG) {p1 : Int32} {p2 : Int32} {M : zMem} {F : Int64} {Mo : zMem} (hf : fX7_tryIt p1 p2 M = some Mo) : zCM l yX7_tryIt wX7_tryIt { frames := 6, cells := 0, slots := 0, locals := 136 } D G [.ref (G.1 60), .int p1, .int p2] M F none Mo F := by
  refine zCM.ofV (own := RX7) (cc := cX7_tryIt) (maxL := 5) (ret := none) (lv := [(0, .ref (G.1 60)), (1, .int p1), (2, .int p2)]) (by decide) rfl rfl (Nat.le_of_ble_eq_true rfl) rfl (fun κ X Z hm hκ1 hκ2 => ?_)
  subst hκ1 hκ2
  unfold fX7_tryIt at hf
  refine z_iload_n X dX7_tryIt_0 rfl 2 rfl ?_
  obtain ⟨r2, h1, hf⟩ := zb1_sp hf
  refine gc_X7_127 (st := []) X (mtX7_isShear κ.2.1 κ.2.2.2.2.2.2.2.2.2.2.1 G  h1) rfl rfl (Nat.le_of_ble_eq_true rfl) (Nat.le_of_ble_eq_true rfl) (Nat.le_of_ble_eq_true rfl) dX7_tryIt_1 ?_
  refine z_istore_n (lv' := [(3, .int r2), (0, .ref (G.1 60)), (1, .int p1), (2, .int p2)]) X dX7_tryIt_4 rfl hm (by decide) rfl ?_
  refine z_iconst (v := (0 : Int32)) X dX7_tryIt_5 (by decide) ?_
  refine z_istore (lv' := [(4, .int (0 : Int32)), (3, .int r2), (0, .ref (G.1 60)), (1, .int p1), (2, .int p2)]) X dX7_tryIt_6 hm (by decide) rfl ?_
  obtain ⟨b10, hb11, hf⟩ := zb1_sp hf
  have hX5 : ∀ t, t = b10 → zu2 (fun (x19 : Int32) (x20 : Int32) => zV κ G 44 [(4, .int x19), (3, .int x20), (0, .ref (G.1 60)), (1, .int p1), (2, .int p2)] [] M F) t := by
    intro t ht
    subst ht
    obtain ⟨x19, x20⟩ := t
    show zV κ G 44 [(4, .int x19), (3, .int x20), (0, .ref (G.1 60)), (1, .int p1), (2, .int p2)] [] M F
    refine z_iload_n X dX7_tryIt_44 rfl 1 rfl ?_
    obtain ⟨k22, k22e, hf⟩ := zj_sp hf
    have hj23 : ∀ (M21 : zMem), k22 M21 = some Mo → zV κ G 83 [(4, .int x19), (3, .int x20), (0, .ref (G.1 60)), (1, .int p1), (2, .int p2)] [] M21 F := by
      intro M21 hf
      rw [k22e] at hf
      exact z_vret X (zR_M hf Z) dX7_tryIt_83
    clear k22e
    refine z_if_eq (tgt := 83) X dX7_tryIt_45 (by decide) (fun h32 => ?_) (fun h32 => ?_)
    · have hf := zt h32 hf
      exact hj23 M hf
    · have hf := zf h32 hf
      refine z_aload_n X dX7_tryIt_48 rfl 2 rfl ?_
      refine gf_X7_30 X dX7_tryIt_49 ?_
      refine z_aload_n X dX7_tryIt_52 rfl 2 rfl ?_
      refine gf_X7_144 X dX7_tryIt_53 ?_
      refine z_iload_n X dX7_tryIt_56 rfl 4 rfl ?_
      obtain ⟨h24, hf⟩ := zc_sp hf
      refine z_iast X zc_66 zl_66 (zin_sp h24) dX7_tryIt_57 ?_
      refine z_nmM hf (fun M25 hf => ?_)
      refine z_aload_n X dX7_tryIt_58 rfl 2 rfl ?_
      refine gf_X7_33 X dX7_tryIt_59 ?_
      refine z_aload_n X dX7_tryIt_62 rfl 2 rfl ?_
      refine gf_X7_144 X dX7_tryIt_63 ?_
      refine z_aload_n X dX7_tryIt_66 rfl 2 rfl ?_
      refine z_iload_n X dX7_tryIt_67 rfl 3 rfl ?_
      refine z_iload_n X dX7_tryIt_68 rfl 4 rfl ?_
      obtain ⟨r27, M28, h26, hf⟩ := zb2_sp hf
      refine gc_X7_138 (st := [.int (M25 60 7), .ref (G.1 67)]) X (mtX7_sharpness κ.2.1 κ.2.2.2.2.2.2.2.2.2.2.1 G  h26) rfl rfl (Nat.le_of_ble_eq_true rfl) (Nat.le_of_ble_eq_true rfl) (Nat.le_of_ble_eq_true rfl) dX7_tryIt_69 ?_
      obtain ⟨h29, hf⟩ := zc_sp hf
      refine z_iast X zc_67 zl_67 (zin_sp h29) dX7_tryIt_72 ?_
      refine z_nmM hf (fun M30 hf => ?_)
      refine z_aload_n X dX7_tryIt_73 rfl 2 rfl ?_
      refine z_dup X dX7_tryIt_74 rfl ?_
      refine gf_X7_144 X dX7_tryIt_75 ?_
      refine z_iconst (v := (1 : Int32)) X dX7_tryIt_78 (by decide) ?_
      refine z_iadd X dX7_tryIt_79 ?_
      refine pf_X7_144 X dX7_tryIt_80 ?_
      refine z_nmM hf (fun M31 hf => ?_)
      exact hj23 M31 hf
  refine zlp_walk (P := zu2 (fun (x3 : Int32) (x4 : Int32) => zV κ G 8 [(4, .int x3), (3, .int x4), (0, .ref (G.1 60)), (1, .int p1), (2, .int p2)] [] M F)) (fun a33 w9 hf hi7 hx8 => ?_) _ _ hb11
  obtain ⟨x3, x4⟩ := a33
  show zV κ G 8 [(4, .int x3), (3, .int x4), (0, .ref (G.1 60)), (1, .int p1), (2, .int p2)] [] M F
  replace hf : fX7_tryIt_L8 p2 M x3 x4 = some w9 := hf
  unfold fX7_tryIt_L8 at hf
  refine z_iload X dX7_tryIt_8 0 rfl ?_
  refine z_aload_n X dX7_tryIt_10 rfl 2 rfl ?_
  refine gf_X7_144 X dX7_tryIt_11 ?_
  refine z_icmp_ge (tgt := 44) X dX7_tryIt_14 (by decide) (fun h18 => ?_) (fun h18 => ?_)
  · have hf := zt h18 hf
    have hq := hX5 _ (hx8 _ (Option.some.inj hf).symm)
    exact hq
  · have hf := zf h18 hf
    refine z_iload_n X dX7_tryIt_17 rfl 1 rfl ?_
    obtain ⟨k13, k13e, hf⟩ := zj_sp hf
    have hj14 : ∀ (x12 : Int32), k13 x12 = some w9 → zV κ G 37 [(4, .int x3), (3, .int x4), (0, .ref (G.1 60)), (1, .int p1), (2, .int p2)] [.int x12] M F := by
      intro x12 hf
      rw [k13e] at hf
      refine z_istore_n (lv' := [(3, .int x12), (4, .int x3), (0, .ref (G.1 60)), (1, .int p1), (2, .int p2)]) X dX7_tryIt_37 rfl hm (by decide) rfl ?_
      refine z_iinc (lv' := [(4, .int (x3 + (1 : Int32))), (3, .int x12), (0, .ref (G.1 60)), (1, .int p1), (2, .int p2)]) (v := x3 + (1 : Int32)) X dX7_tryIt_38 (j := 1) rfl rfl hm (by decide) rfl ?_
      refine z_goto (tgt := 8) X dX7_tryIt_41 (by decide) ?_
      have hq := hi7 _ (Option.some.inj hf).symm
      exact hq
    clear k13e
    refine z_if_eq (tgt := 36) X dX7_tryIt_18 (by decide) (fun h17 => ?_) (fun h17 => ?_)
    · have hf := zt h17 hf
      refine z_iconst (v := (0 : Int32)) X dX7_tryIt_36 (by decide) ?_
      exact hj14 (0 : Int32) hf
    · have hf := zf h17 hf
      refine z_aload_n X dX7_tryIt_21 rfl 2 rfl ?_
      refine gf_X7_30 X dX7_tryIt_22 ?_
      refine z_iload X dX7_tryIt_25 0 rfl ?_
      obtain ⟨h15, hf⟩ := zc_sp hf
      refine z_iald X zc_66 zl_66 (zin_sp h15) dX7_tryIt_27 ?_
      refine z_iload_n X dX7_tryIt_28 rfl 4 rfl ?_
      refine z_icmp_eq (tgt := 36) X dX7_tryIt_29 (by decide) (fun h16 => ?_) (fun h16 => ?_)
      · have hf := zt h16 hf
        refine z_iconst (v := (0 : Int32)) X dX7_tryIt_36 (by decide) ?_
        exact hj14 (0 : Int32) hf
      · have hf := zf h16 hf
        refine z_iconst (v := (1 : Int32)) X dX7_tryIt_32 (by decide) ?_
        refine z_goto (tgt := 37) X dX7_tryIt_33 (by decide) ?_
        exact hj14 (1 : Int32) hf
set_option maxHeartbeats 4000000 in
set_option maxRecDepth 100000 in
theorem mtX7_bestTried (l : Launch) (D : va_G) (G : zG) {M : zMem} {F : Int64} {ro : Int32} (hf : fX7_bestTried M = some ro) : zCM l yX7_bestTried wX7_bestTried { frames := 2, cells := 0, slots := 0, locals := 43 } D G [.ref (G.1 60)] M F (some (.int ro)) M F := by
  refine zCM.ofV (own := RX7) (cc := cX7_bestTried) (maxL := 3) (ret := (some .int)) (lv := [(0, .ref (G.1 60))]) (by decide) rfl rfl (Nat.le_of_ble_eq_true rfl) rfl (fun κ X Z hm hκ1 hκ2 => ?_)
  subst hκ1 hκ2
  unfold fX7_bestTried at hf
  refine z_iconst (v := (0 : Int32)) X dX7_bestTried_0 (by decide) ?_
  refine z_istore_n (lv' := [(1, .int (0 : Int32)), (0, .ref (G.1 60))]) X dX7_bestTried_1 rfl hm (by decide) rfl ?_
  refine z_iconst (v := (1 : Int32)) X dX7_bestTried_2 (by decide) ?_
  refine z_istore_n (lv' := [(2, .int (1 : Int32)), (1, .int (0 : Int32)), (0, .ref (G.1 60))]) X dX7_bestTried_3 rfl hm (by decide) rfl ?_
  obtain ⟨b8, hb9, hf⟩ := zb1_sp hf
  have hX3 : ∀ t, t = b8 → zu2 (fun (x19 : Int32) (x20 : Int32) => zV κ G 54 [(2, .int x19), (1, .int x20), (0, .ref (G.1 60))] [] M F) t := by
    intro t ht
    subst ht
    obtain ⟨x19, x20⟩ := t
    show zV κ G 54 [(2, .int x19), (1, .int x20), (0, .ref (G.1 60))] [] M F
    refine z_aload_n X dX7_bestTried_54 rfl 2 rfl ?_
    refine gf_X7_30 X dX7_bestTried_55 ?_
    refine z_iload_n X dX7_bestTried_58 rfl 1 rfl ?_
    obtain ⟨h21, hf⟩ := zc_sp hf
    refine z_iald X zc_66 zl_66 (zin_sp h21) dX7_bestTried_59 ?_
    exact z_iret X (zR_i hf Z) dX7_bestTried_60
  refine zlp_walk (P := zu2 (fun (x1 : Int32) (x2 : Int32) => zV κ G 4 [(2, .int x1), (1, .int x2), (0, .ref (G.1 60))] [] M F)) (fun a22 w7 hf hi5 hx6 => ?_) _ _ hb9
  obtain ⟨x1, x2⟩ := a22
  show zV κ G 4 [(2, .int x1), (1, .int x2), (0, .ref (G.1 60))] [] M F
  replace hf : fX7_bestTried_L4 M x1 x2 = some w7 := hf
  unfold fX7_bestTried_L4 at hf
  refine z_iload_n X dX7_bestTried_4 rfl 0 rfl ?_
  refine z_aload_n X dX7_bestTried_5 rfl 2 rfl ?_
  refine gf_X7_144 X dX7_bestTried_6 ?_
  refine z_icmp_ge (tgt := 54) X dX7_bestTried_9 (by decide) (fun h18 => ?_) (fun h18 => ?_)
  · have hf := zt h18 hf
    have hq := hX3 _ (hx6 _ (Option.some.inj hf).symm)
    exact hq
  · have hf := zf h18 hf
    refine z_aload_n X dX7_bestTried_12 rfl 2 rfl ?_
    refine gf_X7_30 X dX7_bestTried_13 ?_
    refine z_iload_n X dX7_bestTried_16 rfl 0 rfl ?_
    obtain ⟨h10, hf⟩ := zc_sp hf
    refine z_iald X zc_66 zl_66 (zin_sp h10) dX7_bestTried_17 ?_
    refine z_aload_n X dX7_bestTried_18 rfl 2 rfl ?_
    refine gf_X7_33 X dX7_bestTried_19 ?_
    refine z_iload_n X dX7_bestTried_22 rfl 0 rfl ?_
    obtain ⟨h11, hf⟩ := zc_sp hf
    refine z_iald X zc_67 zl_67 (zin_sp h11) dX7_bestTried_23 ?_
    refine z_aload_n X dX7_bestTried_24 rfl 2 rfl ?_
    refine gf_X7_30 X dX7_bestTried_25 ?_
    refine z_iload_n X dX7_bestTried_28 rfl 1 rfl ?_
    obtain ⟨h12, hf⟩ := zc_sp hf
    refine z_iald X zc_66 zl_66 (zin_sp h12) dX7_bestTried_29 ?_
    refine z_aload_n X dX7_bestTried_30 rfl 2 rfl ?_
    refine gf_X7_33 X dX7_bestTried_31 ?_
    refine z_iload_n X dX7_bestTried_34 rfl 1 rfl ?_
    obtain ⟨h13, hf⟩ := zc_sp hf
    refine z_iald X zc_67 zl_67 (zin_sp h13) dX7_bestTried_35 ?_
    obtain ⟨r15, h14, hf⟩ := zb1_sp hf
    refine gc_X7_147 (st := []) X (mtX7_isAhead κ.2.1 κ.2.2.2.2.2.2.2.2.2.2.1 G  h14) rfl rfl (Nat.le_of_ble_eq_true rfl) (Nat.le_of_ble_eq_true rfl) (Nat.le_of_ble_eq_true rfl) dX7_bestTried_36 ?_
    have hj : zV κ G 47 [(2, .int x1), (1, .int x2), (0, .ref (G.1 60))] [.int (if r15 = 0 then x2 else x1)] M F := by
      refine z_nmI hf (fun x17 hf => ?_)
      refine z_istore_n (lv' := [(1, .int x17), (2, .int x1), (0, .ref (G.1 60))]) X dX7_bestTried_47 rfl hm (by decide) rfl ?_
      refine z_iinc (lv' := [(2, .int (x1 + (1 : Int32))), (1, .int x17), (0, .ref (G.1 60))]) (v := x1 + (1 : Int32)) X dX7_bestTried_48 (j := 1) rfl rfl hm (by decide) rfl ?_
      refine z_goto (tgt := 4) X dX7_bestTried_51 (by decide) ?_
      have hq := hi5 _ (Option.some.inj hf).symm
      exact hq
    refine z_if_eq (tgt := 46) X dX7_bestTried_39 (by decide) (fun h16 => ?_) (fun h16 => ?_)
    · try simp only [if_pos h16] at hj
      refine z_iload_n X dX7_bestTried_46 rfl 1 rfl ?_
      exact hj
    · try simp only [if_neg h16] at hj
      refine z_iload_n X dX7_bestTried_42 rfl 0 rfl ?_
      refine z_goto (tgt := 47) X dX7_bestTried_43 (by decide) ?_
      exact hj
set_option maxHeartbeats 4000000 in
set_option maxRecDepth 100000 in
theorem mtX7_best (l : Launch) (D : va_G) (G : zG) {p1 : Int32} {M : zMem} {F : Int64} {ro : Int32} {Mo : zMem} (hf : fX7_best p1 M = some (ro, Mo)) : zCM l yX7_best wX7_best { frames := 7, cells := 0, slots := 0, locals := 160 } D G [.ref (G.1 60), .int p1] M F (some (.int ro)) Mo F := by
  refine zCM.ofV (own := RX7) (cc := cX7_best) (maxL := 3) (ret := (some .int)) (lv := [(0, .ref (G.1 60)), (1, .int p1)]) (by decide) rfl rfl (Nat.le_of_ble_eq_true rfl) rfl (fun κ X Z hm hκ1 hκ2 => ?_)
  subst hκ1 hκ2
  unfold fX7_best at hf
  refine z_iload_n X dX7_best_0 rfl 1 rfl ?_
  obtain ⟨r2, h1, hf⟩ := zb1_sp hf
  refine gc_X7_124 (st := []) X (mtX7_isAxis κ.2.1 κ.2.2.2.2.2.2.2.2.2.2.1 G  h1) rfl rfl (Nat.le_of_ble_eq_true rfl) (Nat.le_of_ble_eq_true rfl) (Nat.le_of_ble_eq_true rfl) dX7_best_1 ?_
  refine z_if_ne (tgt := 10) X dX7_best_4 (by decide) (fun h21 => ?_) (fun h21 => ?_)
  · have hf := zf h21 hf
    refine z_aload_n X dX7_best_10 rfl 0 rfl ?_
    refine z_iconst (v := (0 : Int32)) X dX7_best_11 (by decide) ?_
    refine pf_X7_144 X dX7_best_12 ?_
    refine z_nmM hf (fun M3 hf => ?_)
    refine z_bipush (v := (-16 : Int32)) X dX7_best_15 (by decide) ?_
    refine z_istore_n (lv' := [(2, .int (-16 : Int32)), (0, .ref (G.1 60)), (1, .int p1)]) X dX7_best_17 rfl hm (by decide) rfl ?_
    obtain ⟨b11, hb12, hf⟩ := zb1_sp hf
    have hX6 : ∀ t, t = b11 → zu2 (fun (x16 : Int32) (M17 : zMem) => zV κ G 36 [(2, .int x16), (0, .ref (G.1 60)), (1, .int p1)] [] M17 F) t := by
      intro t ht
      subst ht
      obtain ⟨x16, M17⟩ := t
      show zV κ G 36 [(2, .int x16), (0, .ref (G.1 60)), (1, .int p1)] [] M17 F
      refine z_aload_n X dX7_best_36 rfl 1 rfl ?_
      obtain ⟨r19, h18, hf⟩ := zb1_sp hf
      refine gc_X7_154 (st := []) X (mtX7_bestTried κ.2.1 κ.2.2.2.2.2.2.2.2.2.2.1 G  h18) rfl rfl (Nat.le_of_ble_eq_true rfl) (Nat.le_of_ble_eq_true rfl) (Nat.le_of_ble_eq_true rfl) dX7_best_37 ?_
      refine z_bipush (v := (100 : Int32)) X dX7_best_40 (by decide) ?_
      refine z_iadd X dX7_best_42 ?_
      exact z_iret X (zR_iM hf Z) dX7_best_43
    refine zlp_walk (P := zu2 (fun (x4 : Int32) (M5 : zMem) => zV κ G 18 [(2, .int x4), (0, .ref (G.1 60)), (1, .int p1)] [] M5 F)) (fun a20 w10 hf hi8 hx9 => ?_) _ _ hb12
    obtain ⟨x4, M5⟩ := a20
    show zV κ G 18 [(2, .int x4), (0, .ref (G.1 60)), (1, .int p1)] [] M5 F
    replace hf : fX7_best_L18 p1 x4 M5 = some w10 := hf
    unfold fX7_best_L18 at hf
    refine z_iload_n X dX7_best_18 rfl 0 rfl ?_
    refine z_bipush (v := (16 : Int32)) X dX7_best_19 (by decide) ?_
    refine z_icmp_gt (tgt := 36) X dX7_best_21 (by decide) (fun h15 => ?_) (fun h15 => ?_)
    · have hf := zt h15 hf
      have hq := hX6 _ (hx9 _ (Option.some.inj hf).symm)
      exact hq
    · have hf := zf h15 hf
      refine z_aload_n X dX7_best_24 rfl 1 rfl ?_
      refine z_iload_n X dX7_best_25 rfl 2 rfl ?_
      refine z_iload_n X dX7_best_26 rfl 0 rfl ?_
      obtain ⟨M14, h13, hf⟩ := zb1_sp hf
      refine gc_X7_151 (st := []) X (mtX7_tryIt κ.2.1 κ.2.2.2.2.2.2.2.2.2.2.1 G  h13) rfl rfl (Nat.le_of_ble_eq_true rfl) (Nat.le_of_ble_eq_true rfl) (Nat.le_of_ble_eq_true rfl) dX7_best_27 ?_
      refine z_iinc (lv' := [(2, .int (x4 + (1 : Int32))), (0, .ref (G.1 60)), (1, .int p1)]) (v := x4 + (1 : Int32)) X dX7_best_30 (j := 0) rfl rfl hm (by decide) rfl ?_
      refine z_goto (tgt := 18) X dX7_best_33 (by decide) ?_
      have hq := hi8 _ (Option.some.inj hf).symm
      exact hq
  · have hf := zt h21 hf
    refine z_bipush (v := (-2 : Int32)) X dX7_best_7 (by decide) ?_
    exact z_iret X (zR_iM hf Z) dX7_best_9
set_option maxHeartbeats 4000000 in
set_option maxRecDepth 100000 in
theorem mtX7_search (l : Launch) (D : va_G) (G : zG) {p1 : Int32} {M : zMem} {F : Int64} {Mo : zMem} (hf : fX7_search p1 M = some Mo) : zCM l yX7_search wX7_search { frames := 7, cells := 0, slots := 0, locals := 160 } D G [.ref (G.1 60), .int p1] M F none Mo F := by
  refine zCM.ofV (own := RX7) (cc := cX7_search) (maxL := 4) (ret := none) (lv := [(0, .ref (G.1 60)), (1, .int p1)]) (by decide) rfl rfl (Nat.le_of_ble_eq_true rfl) rfl (fun κ X Z hm hκ1 hκ2 => ?_)
  subst hκ1 hκ2
  unfold fX7_search at hf
  refine z_aload_n X dX7_search_0 rfl 0 rfl ?_
  refine z_iconst (v := (0 : Int32)) X dX7_search_1 (by decide) ?_
  refine pf_X7_144 X dX7_search_2 ?_
  refine z_nmM hf (fun M1 hf => ?_)
  refine z_bipush (v := (-16 : Int32)) X dX7_search_5 (by decide) ?_
  refine z_istore_n (lv' := [(2, .int (-16 : Int32)), (0, .ref (G.1 60)), (1, .int p1)]) X dX7_search_7 rfl hm (by decide) rfl ?_
  obtain ⟨b9, hb10, hf⟩ := zb1_sp hf
  have hX4 : ∀ t, t = b9 → zu2 (fun (x14 : Int32) (M15 : zMem) => zV κ G 26 [(2, .int x14), (0, .ref (G.1 60)), (1, .int p1)] [] M15 F) t := by
    intro t ht
    subst ht
    obtain ⟨x14, M15⟩ := t
    show zV κ G 26 [(2, .int x14), (0, .ref (G.1 60)), (1, .int p1)] [] M15 F
    refine z_iconst (v := (4 : Int32)) X dX7_search_26 (by decide) ?_
    refine z_istore_n (lv' := [(2, .int (4 : Int32)), (0, .ref (G.1 60)), (1, .int p1)]) X dX7_search_27 rfl hm (by decide) rfl ?_
    obtain ⟨b23, hb24, hf⟩ := zb1_sp hf
    have hX18 : ∀ t, t = b23 → zu2 (fun (x33 : Int32) (M34 : zMem) => zV κ G 60 [(2, .int x33), (0, .ref (G.1 60)), (1, .int p1)] [] M34 F) t := by
      intro t ht
      subst ht
      obtain ⟨x33, M34⟩ := t
      show zV κ G 60 [(2, .int x33), (0, .ref (G.1 60)), (1, .int p1)] [] M34 F
      exact z_vret X (zR_M hf Z) dX7_search_60
    refine zlp_walk (P := zu2 (fun (x16 : Int32) (M17 : zMem) => zV κ G 28 [(2, .int x16), (0, .ref (G.1 60)), (1, .int p1)] [] M17 F)) (fun a35 w22 hf hi20 hx21 => ?_) _ _ hb24
    obtain ⟨x16, M17⟩ := a35
    show zV κ G 28 [(2, .int x16), (0, .ref (G.1 60)), (1, .int p1)] [] M17 F
    replace hf : fX7_search_L28 p1 x16 M17 = some w22 := hf
    unfold fX7_search_L28 at hf
    refine z_iload_n X dX7_search_28 rfl 0 rfl ?_
    refine z_if_le (tgt := 60) X dX7_search_29 (by decide) (fun h32 => ?_) (fun h32 => ?_)
    · have hf := zt h32 hf
      have hq := hX18 _ (hx21 _ (Option.some.inj hf).symm)
      exact hq
    · have hf := zf h32 hf
      refine z_aload_n X dX7_search_32 rfl 1 rfl ?_
      obtain ⟨r26, h25, hf⟩ := zb1_sp hf
      refine gc_X7_154 (st := []) X (mtX7_bestTried κ.2.1 κ.2.2.2.2.2.2.2.2.2.2.1 G  h25) rfl rfl (Nat.le_of_ble_eq_true rfl) (Nat.le_of_ble_eq_true rfl) (Nat.le_of_ble_eq_true rfl) dX7_search_33 ?_
      refine z_istore_n (lv' := [(3, .int r26), (2, .int x16), (0, .ref (G.1 60)), (1, .int p1)]) X dX7_search_36 rfl hm (by decide) rfl ?_
      refine z_aload_n X dX7_search_37 rfl 2 rfl ?_
      refine z_iload_n X dX7_search_38 rfl 3 rfl ?_
      refine z_iload_n X dX7_search_39 rfl 0 rfl ?_
      refine z_iload_n X dX7_search_40 rfl 1 rfl ?_
      refine z_isub X dX7_search_41 ?_
      obtain ⟨M28, h27, hf⟩ := zb1_sp hf
      refine gc_X7_151 (st := []) X (mtX7_tryIt κ.2.1 κ.2.2.2.2.2.2.2.2.2.2.1 G  h27) rfl rfl (Nat.le_of_ble_eq_true rfl) (Nat.le_of_ble_eq_true rfl) (Nat.le_of_ble_eq_true rfl) dX7_search_42 ?_
      refine z_aload_n X dX7_search_45 rfl 2 rfl ?_
      refine z_iload_n X dX7_search_46 rfl 3 rfl ?_
      refine z_iload_n X dX7_search_47 rfl 0 rfl ?_
      refine z_iload_n X dX7_search_48 rfl 1 rfl ?_
      refine z_iadd X dX7_search_49 ?_
      obtain ⟨M30, h29, hf⟩ := zb1_sp hf
      refine gc_X7_151 (st := []) X (mtX7_tryIt κ.2.1 κ.2.2.2.2.2.2.2.2.2.2.1 G  h29) rfl rfl (Nat.le_of_ble_eq_true rfl) (Nat.le_of_ble_eq_true rfl) (Nat.le_of_ble_eq_true rfl) dX7_search_50 ?_
      refine z_iload_n X dX7_search_53 rfl 1 rfl ?_
      refine z_iconst (v := (2 : Int32)) X dX7_search_54 (by decide) ?_
      refine z_idiv X dX7_search_55 (by decide) ?_
      refine z_nmI hf (fun x31 hf => ?_)
      refine z_istore_n (lv' := [(2, .int x31), (3, .int r26), (0, .ref (G.1 60)), (1, .int p1)]) X dX7_search_56 rfl hm (by decide) rfl ?_
      refine z_goto (tgt := 28) X dX7_search_57 (by decide) ?_
      refine z_sub [0, 2, 3] rfl ?_
      have hq := hi20 _ (Option.some.inj hf).symm
      exact hq
  refine zlp_walk (P := zu2 (fun (x2 : Int32) (M3 : zMem) => zV κ G 8 [(2, .int x2), (0, .ref (G.1 60)), (1, .int p1)] [] M3 F)) (fun a36 w8 hf hi6 hx7 => ?_) _ _ hb10
  obtain ⟨x2, M3⟩ := a36
  show zV κ G 8 [(2, .int x2), (0, .ref (G.1 60)), (1, .int p1)] [] M3 F
  replace hf : fX7_search_L8 p1 x2 M3 = some w8 := hf
  unfold fX7_search_L8 at hf
  refine z_iload_n X dX7_search_8 rfl 0 rfl ?_
  refine z_bipush (v := (16 : Int32)) X dX7_search_9 (by decide) ?_
  refine z_icmp_gt (tgt := 26) X dX7_search_11 (by decide) (fun h13 => ?_) (fun h13 => ?_)
  · have hf := zt h13 hf
    have hq := hX4 _ (hx7 _ (Option.some.inj hf).symm)
    exact hq
  · have hf := zf h13 hf
    refine z_aload_n X dX7_search_14 rfl 1 rfl ?_
    refine z_iload_n X dX7_search_15 rfl 2 rfl ?_
    refine z_iload_n X dX7_search_16 rfl 0 rfl ?_
    obtain ⟨M12, h11, hf⟩ := zb1_sp hf
    refine gc_X7_151 (st := []) X (mtX7_tryIt κ.2.1 κ.2.2.2.2.2.2.2.2.2.2.1 G  h11) rfl rfl (Nat.le_of_ble_eq_true rfl) (Nat.le_of_ble_eq_true rfl) (Nat.le_of_ble_eq_true rfl) dX7_search_17 ?_
    refine z_iinc (lv' := [(2, .int (x2 + (8 : Int32))), (0, .ref (G.1 60)), (1, .int p1)]) (v := x2 + (8 : Int32)) X dX7_search_20 (j := 0) rfl rfl hm (by decide) rfl ?_
    refine z_goto (tgt := 8) X dX7_search_23 (by decide) ?_
    have hq := hi6 _ (Option.some.inj hf).symm
    exact hq
set_option maxHeartbeats 4000000 in
set_option maxRecDepth 100000 in
theorem mtX7_found (l : Launch) (D : va_G) (G : zG) {p1 : Int32} {M : zMem} {F : Int64} {ro : Int32} {Mo : zMem} (hf : fX7_found p1 M = some (ro, Mo)) : zCM l yX7_found wX7_found { frames := 8, cells := 0, slots := 0, locals := 183 } D G [.ref (G.1 60), .int p1] M F (some (.int ro)) Mo F := by
  refine zCM.ofV (own := RX7) (cc := cX7_found) (maxL := 2) (ret := (some .int)) (lv := [(0, .ref (G.1 60)), (1, .int p1)]) (by decide) rfl rfl (Nat.le_of_ble_eq_true rfl) rfl (fun κ X Z hm hκ1 hκ2 => ?_)
  subst hκ1 hκ2
  unfold fX7_found at hf
  refine z_iload_n X dX7_found_0 rfl 1 rfl ?_
  obtain ⟨r2, h1, hf⟩ := zb1_sp hf
  refine gc_X7_124 (st := []) X (mtX7_isAxis κ.2.1 κ.2.2.2.2.2.2.2.2.2.2.1 G  h1) rfl rfl (Nat.le_of_ble_eq_true rfl) (Nat.le_of_ble_eq_true rfl) (Nat.le_of_ble_eq_true rfl) dX7_found_1 ?_
  refine z_if_ne (tgt := 10) X dX7_found_4 (by decide) (fun h7 => ?_) (fun h7 => ?_)
  · have hf := zf h7 hf
    refine z_aload_n X dX7_found_10 rfl 0 rfl ?_
    refine z_iload_n X dX7_found_11 rfl 1 rfl ?_
    obtain ⟨M4, h3, hf⟩ := zb1_sp hf
    refine gc_X7_157 (st := []) X (mtX7_search κ.2.1 κ.2.2.2.2.2.2.2.2.2.2.1 G  h3) rfl rfl (Nat.le_of_ble_eq_true rfl) (Nat.le_of_ble_eq_true rfl) (Nat.le_of_ble_eq_true rfl) dX7_found_12 ?_
    refine z_aload_n X dX7_found_15 rfl 0 rfl ?_
    obtain ⟨r6, h5, hf⟩ := zb1_sp hf
    refine gc_X7_154 (st := []) X (mtX7_bestTried κ.2.1 κ.2.2.2.2.2.2.2.2.2.2.1 G  h5) rfl rfl (Nat.le_of_ble_eq_true rfl) (Nat.le_of_ble_eq_true rfl) (Nat.le_of_ble_eq_true rfl) dX7_found_16 ?_
    refine z_bipush (v := (100 : Int32)) X dX7_found_19 (by decide) ?_
    refine z_iadd X dX7_found_21 ?_
    exact z_iret X (zR_iM hf Z) dX7_found_22
  · have hf := zt h7 hf
    refine z_bipush (v := (-2 : Int32)) X dX7_found_7 (by decide) ?_
    exact z_iret X (zR_iM hf Z) dX7_found_9
