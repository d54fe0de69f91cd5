set_option maxHeartbeats 4000000 in
set_option maxRecDepth 100000 in
theorem mtX7_tried (l : Launch) (D : va_G) (G : zG) {p1 : Int32} {p2 : Int32} {M : zMem} {F : Int64} {ro : Int32} {Mo : zMem} (hf : fX7_tried p1 p2 M = some (ro, Mo)) : zCM l yX7_tried wX7_tried { frames := 8, cells := 0, slots := 0, locals := 183 } D G [.ref (G.1 60), .int p1, .int p2] M F (some (.int ro)) Mo F := by
  refine zCM.ofV (own := RX7) (cc := cX7_tried) (maxL := 3) (ret := (some .int)) (lv := [(0, .ref (G.1 60)), (1, .int p1), (2, .int p2)]) (by decide) rfl rfl (Nat.le_of_ble_eq_true rfl) rfl (fun κ X Z hm hκ1 hκ2 => ?_)
  subst hκ1 hκ2
  unfold fX7_tried at hf
  refine z_iload_n X dX7_tried_0 rfl 1 rfl ?_
  obtain ⟨r2, h1, hf⟩ := zb1_sp hf
  refine gc_X7_124 (st := []) X (mtX7_isAxis κ.2.1 κ.2.2.2.2.2.2.2.2.2.2.1 G  h1) rfl rfl (Nat.le_of_ble_eq_true rfl) (Nat.le_of_ble_eq_true rfl) (Nat.le_of_ble_eq_true rfl) dX7_tried_1 ?_
  refine z_if_eq (tgt := 17) X dX7_tried_4 (by decide) (fun h13 => ?_) (fun h13 => ?_)
  · have hf := zt h13 hf
    refine z_bipush (v := (-2 : Int32)) X dX7_tried_17 (by decide) ?_
    exact z_iret X (zR_iM hf Z) dX7_tried_19
  · have hf := zf h13 hf
    refine z_iload_n X dX7_tried_7 rfl 2 rfl ?_
    refine z_iconst (v := (0 : Int32)) X dX7_tried_8 (by decide) ?_
    refine z_bipush (v := (32 : Int32)) X dX7_tried_9 (by decide) ?_
    obtain ⟨r4, h3, hf⟩ := zb1_sp hf
    refine gc_X7_66 (st := []) X (mtX7_within κ.2.1 κ.2.2.2.2.2.2.2.2.2.2.1 G  h3) rfl rfl (Nat.le_of_ble_eq_true rfl) (Nat.le_of_ble_eq_true rfl) (Nat.le_of_ble_eq_true rfl) dX7_tried_11 ?_
    refine z_if_ne (tgt := 20) X dX7_tried_14 (by decide) (fun h12 => ?_) (fun h12 => ?_)
    · have hf := zf h12 hf
      refine z_aload_n X dX7_tried_20 rfl 0 rfl ?_
      refine z_iload_n X dX7_tried_21 rfl 1 rfl ?_
      obtain ⟨M6, h5, hf⟩ := zb1_sp hf
      refine gc_X7_157 (st := []) X (mtX7_search κ.2.1 κ.2.2.2.2.2.2.2.2.2.2.1 G  h5) rfl rfl (Nat.le_of_ble_eq_true rfl) (Nat.le_of_ble_eq_true rfl) (Nat.le_of_ble_eq_true rfl) dX7_tried_22 ?_
      refine z_iload_n X dX7_tried_25 rfl 2 rfl ?_
      refine z_aload_n X dX7_tried_26 rfl 0 rfl ?_
      refine gf_X7_144 X dX7_tried_27 ?_
      obtain ⟨k8, k8e, hf⟩ := zj_sp hf
      have hj9 : ∀ (x7 : Int32), k8 x7 = some (ro, Mo) → zV κ G 47 [(0, .ref (G.1 60)), (1, .int p1), (2, .int p2)] [.int x7] M6 F := by
        intro x7 hf
        rw [k8e] at hf
        exact z_iret X (zR_iM hf Z) dX7_tried_47
      clear k8e
      refine z_icmp_ge (tgt := 45) X dX7_tried_30 (by decide) (fun h11 => ?_) (fun h11 => ?_)
      · have hf := zt h11 hf
        refine z_bipush (v := (-9 : Int32)) X dX7_tried_45 (by decide) ?_
        exact hj9 (-9 : Int32) hf
      · have hf := zf h11 hf
        refine z_aload_n X dX7_tried_33 rfl 0 rfl ?_
        refine gf_X7_30 X dX7_tried_34 ?_
        refine z_iload_n X dX7_tried_37 rfl 2 rfl ?_
        obtain ⟨h10, hf⟩ := zc_sp hf
        refine z_iald X zc_66 zl_66 (zin_sp h10) dX7_tried_38 ?_
        refine z_bipush (v := (100 : Int32)) X dX7_tried_39 (by decide) ?_
        refine z_iadd X dX7_tried_41 ?_
        refine z_goto (tgt := 47) X dX7_tried_42 (by decide) ?_
        exact hj9 ((M6 66 p2.toNatClampNeg) + (100 : Int32)) hf
    · have hf := zt h12 hf
      refine z_bipush (v := (-2 : Int32)) X dX7_tried_17 (by decide) ?_
      exact z_iret X (zR_iM hf Z) dX7_tried_19
set_option maxHeartbeats 4000000 in
set_option maxRecDepth 100000 in
theorem mtX7_keeps (l : Launch) (D : va_G) (G : zG) {M : zMem} {F : Int64} {Mo : zMem} (hf : fX7_keeps M = some Mo) : zCM l yX7_keeps wX7_keeps { frames := 0, cells := 0, slots := 0, locals := 0 } D G [.ref (G.1 60)] M F none Mo F := by
  refine zCM.ofV (own := RX7) (cc := cX7_keeps) (maxL := 2) (ret := none) (lv := [(0, .ref (G.1 60))]) (by decide) rfl rfl (Nat.le_of_ble_eq_true rfl) rfl (fun κ X Z hm hκ1 hκ2 => ?_)
  subst hκ1 hκ2
  unfold fX7_keeps at hf
  refine z_aload_n X dX7_keeps_0 rfl 0 rfl ?_
  refine gf_X7_81 X dX7_keeps_1 ?_
  refine z_bipush (v := (8 : Int32)) X dX7_keeps_4 (by decide) ?_
  obtain ⟨k2, k2e, hf⟩ := zj_sp hf
  have hj3 : ∀ (M1 : zMem), k2 M1 = some Mo → zV κ G 50 [(0, .ref (G.1 60))] [] M1 F := by
    intro M1 hf
    rw [k2e] at hf
    refine z_iconst (v := (0 : Int32)) X dX7_keeps_50 (by decide) ?_
    refine z_istore_n (lv' := [(1, .int (0 : Int32)), (0, .ref (G.1 60))]) X dX7_keeps_51 rfl hm (by decide) rfl ?_
    obtain ⟨b29, hb30, hf⟩ := zb1_sp hf
    have hX24 : ∀ t, t = b29 → zu2 (fun (x35 : Int32) (M36 : zMem) => zV κ G 86 [(1, .int x35), (0, .ref (G.1 60))] [] M36 F) t := by
      intro t ht
      subst ht
      obtain ⟨x35, M36⟩ := t
      show zV κ G 86 [(1, .int x35), (0, .ref (G.1 60))] [] M36 F
      refine z_aload_n X dX7_keeps_86 rfl 1 rfl ?_
      refine z_dup X dX7_keeps_87 rfl ?_
      refine gf_X7_81 X dX7_keeps_88 ?_
      refine z_iconst (v := (1 : Int32)) X dX7_keeps_91 (by decide) ?_
      refine z_iadd X dX7_keeps_92 ?_
      refine pf_X7_81 X dX7_keeps_93 ?_
      refine z_nmM hf (fun M37 hf => ?_)
      exact z_vret X (zR_M hf Z) dX7_keeps_96
    refine zlp_walk (P := zu2 (fun (x22 : Int32) (M23 : zMem) => zV κ G 52 [(1, .int x22), (0, .ref (G.1 60))] [] M23 F)) (fun a38 w28 hf hi26 hx27 => ?_) _ _ hb30
    obtain ⟨x22, M23⟩ := a38
    show zV κ G 52 [(1, .int x22), (0, .ref (G.1 60))] [] M23 F
    replace hf : fX7_keeps_L52 x22 M23 = some w28 := hf
    unfold fX7_keeps_L52 at hf
    refine z_iload_n X dX7_keeps_52 rfl 0 rfl ?_
    refine z_sipush (v := (768 : Int32)) X dX7_keeps_53 (by decide) ?_
    refine z_icmp_ge (tgt := 86) X dX7_keeps_56 (by decide) (fun h34 => ?_) (fun h34 => ?_)
    · have hf := zt h34 hf
      have hq := hX24 _ (hx27 _ (Option.some.inj hf).symm)
      exact hq
    · have hf := zf h34 hf
      refine z_aload_n X dX7_keeps_59 rfl 1 rfl ?_
      refine gf_X7_36 X dX7_keeps_60 ?_
      refine z_sipush (v := (768 : Int32)) X dX7_keeps_63 (by decide) ?_
      refine z_aload_n X dX7_keeps_66 rfl 1 rfl ?_
      refine gf_X7_81 X dX7_keeps_67 ?_
      refine z_imul X dX7_keeps_70 ?_
      refine z_iload_n X dX7_keeps_71 rfl 0 rfl ?_
      refine z_iadd X dX7_keeps_72 ?_
      refine z_aload_n X dX7_keeps_73 rfl 1 rfl ?_
      refine gf_X7_13 X dX7_keeps_74 ?_
      refine z_iload_n X dX7_keeps_77 rfl 0 rfl ?_
      obtain ⟨h31, hf⟩ := zc_sp hf
      refine z_zald X zc_61 zl_61 (zin_sp h31) dX7_keeps_78 ?_
      obtain ⟨h32, hf⟩ := zc_sp hf
      refine z_zast X zc_68 zl_68 (zin_sp h32) dX7_keeps_79 ?_
      refine z_nmM hf (fun M33 hf => ?_)
      refine z_iinc (lv' := [(1, .int (x22 + (1 : Int32))), (0, .ref (G.1 60))]) (v := x22 + (1 : Int32)) X dX7_keeps_80 (j := 0) rfl rfl hm (by decide) rfl ?_
      refine z_goto (tgt := 52) X dX7_keeps_83 (by decide) ?_
      have hq := hi26 _ (Option.some.inj hf).symm
      exact hq
  clear k2e
  refine z_icmp_ne (tgt := 50) X dX7_keeps_6 (by decide) (fun h21 => ?_) (fun h21 => ?_)
  · have hf := zf h21 hf
    exact hj3 M hf
  · have hf := zt h21 hf
    refine z_iconst (v := (0 : Int32)) X dX7_keeps_9 (by decide) ?_
    refine z_istore_n (lv' := [(1, .int (0 : Int32)), (0, .ref (G.1 60))]) X dX7_keeps_10 rfl hm (by decide) rfl ?_
    obtain ⟨b11, hb12, hf⟩ := zb1_sp hf
    have hX6 : ∀ t, t = b11 → zu2 (fun (x17 : Int32) (M18 : zMem) => zV κ G 40 [(1, .int x17), (0, .ref (G.1 60))] [] M18 F) t := by
      intro t ht
      subst ht
      obtain ⟨x17, M18⟩ := t
      show zV κ G 40 [(1, .int x17), (0, .ref (G.1 60))] [] M18 F
      refine z_aload_n X dX7_keeps_40 rfl 1 rfl ?_
      refine z_dup X dX7_keeps_41 rfl ?_
      refine gf_X7_81 X dX7_keeps_42 ?_
      refine z_iconst (v := (1 : Int32)) X dX7_keeps_45 (by decide) ?_
      refine z_isub X dX7_keeps_46 ?_
      refine pf_X7_81 X dX7_keeps_47 ?_
      refine z_nmM hf (fun M19 hf => ?_)
      refine z_sub [1] rfl ?_
      exact hj3 M19 hf
    refine zlp_walk (P := zu2 (fun (x4 : Int32) (M5 : zMem) => zV κ G 11 [(1, .int x4), (0, .ref (G.1 60))] [] M5 F)) (fun a20 w10 hf hi8 hx9 => ?_) _ _ hb12
    obtain ⟨x4, M5⟩ := a20
    show zV κ G 11 [(1, .int x4), (0, .ref (G.1 60))] [] M5 F
    replace hf : fX7_keeps_L11 x4 M5 = some w10 := hf
    unfold fX7_keeps_L11 at hf
    refine z_iload_n X dX7_keeps_11 rfl 0 rfl ?_
    refine z_sipush (v := (5376 : Int32)) X dX7_keeps_12 (by decide) ?_
    refine z_icmp_ge (tgt := 40) X dX7_keeps_15 (by decide) (fun h16 => ?_) (fun h16 => ?_)
    · have hf := zt h16 hf
      have hq := hX6 _ (hx9 _ (Option.some.inj hf).symm)
      exact hq
    · have hf := zf h16 hf
      refine z_aload_n X dX7_keeps_18 rfl 1 rfl ?_
      refine gf_X7_36 X dX7_keeps_19 ?_
      refine z_iload_n X dX7_keeps_22 rfl 0 rfl ?_
      refine z_aload_n X dX7_keeps_23 rfl 1 rfl ?_
      refine gf_X7_36 X dX7_keeps_24 ?_
      refine z_iload_n X dX7_keeps_27 rfl 0 rfl ?_
      refine z_sipush (v := (768 : Int32)) X dX7_keeps_28 (by decide) ?_
      refine z_iadd X dX7_keeps_31 ?_
      obtain ⟨h13, hf⟩ := zc_sp hf
      refine z_zald X zc_68 zl_68 (zin_sp h13) dX7_keeps_32 ?_
      obtain ⟨h14, hf⟩ := zc_sp hf
      refine z_zast X zc_68 zl_68 (zin_sp h14) dX7_keeps_33 ?_
      refine z_nmM hf (fun M15 hf => ?_)
      refine z_iinc (lv' := [(1, .int (x4 + (1 : Int32))), (0, .ref (G.1 60))]) (v := x4 + (1 : Int32)) X dX7_keeps_34 (j := 0) rfl rfl hm (by decide) rfl ?_
      refine z_goto (tgt := 11) X dX7_keeps_37 (by decide) ?_
      have hq := hi8 _ (Option.some.inj hf).symm
      exact hq
set_option maxHeartbeats 4000000 in
set_option maxRecDepth 100000 in
theorem mtX7_curlOf (l : Launch) (D : va_G) (G : zG) {p1 : Int32} {M : zMem} {F : Int64} {ro : Int32} (hf : fX7_curlOf p1 M = some ro) : zCM l yX7_curlOf wX7_curlOf { frames := 0, cells := 0, slots := 0, locals := 0 } D G [.ref (G.1 60), .int p1] M F (some (.int ro)) M F := by
  refine zCM.ofV (own := RX7) (cc := cX7_curlOf) (maxL := 2) (ret := (some .int)) (lv := [(0, .ref (G.1 60)), (1, .int p1)]) (by decide) rfl rfl (Nat.le_of_ble_eq_true rfl) rfl (fun κ X Z hm hκ1 hκ2 => ?_)
  subst hκ1 hκ2
  unfold fX7_curlOf at hf
  refine z_aload_n X dX7_curlOf_0 rfl 0 rfl ?_
  refine gf_X7_60 X dX7_curlOf_1 ?_
  refine z_iload_n X dX7_curlOf_4 rfl 1 rfl ?_
  obtain ⟨h1, hf⟩ := zc_sp hf
  refine z_iald X zc_76 zl_76 (zin_sp h1) dX7_curlOf_5 ?_
  exact z_iret X (zR_i hf Z) dX7_curlOf_6
set_option maxHeartbeats 4000000 in
set_option maxRecDepth 100000 in
theorem mtX7_goesTo (l : Launch) (D : va_G) (G : zG) {p1 : Int32} {p2 : Int32} {p3 : Int32} {p4 : Int32} {M : zMem} {F : Int64} {ro : Int32} (hf : fX7_goesTo p1 p2 p3 p4 M = some ro) : zCM l yX7_goesTo wX7_goesTo { frames := 4, cells := 0, slots := 0, locals := 87 } D G [.ref (G.1 60), .int p1, .int p2, .int p3, .int p4] M F (some (.int ro)) M F := by
  refine zCM.ofV (own := RX7) (cc := cX7_goesTo) (maxL := 7) (ret := (some .int)) (lv := [(0, .ref (G.1 60)), (1, .int p1), (2, .int p2), (3, .int p3), (4, .int p4)]) (by decide) rfl rfl (Nat.le_of_ble_eq_true rfl) rfl (fun κ X Z hm hκ1 hκ2 => ?_)
  subst hκ1 hκ2
  unfold fX7_goesTo at hf
  refine z_iload_n X dX7_goesTo_0 rfl 1 rfl ?_
  refine z_iconst (v := (1 : Int32)) X dX7_goesTo_1 (by decide) ?_
  obtain ⟨k2, k2e, hf⟩ := zj_sp hf
  have hj3 : ∀ (x1 : Int32), k2 x1 = some ro → zV κ G 17 [(0, .ref (G.1 60)), (1, .int p1), (2, .int p2), (3, .int p3), (4, .int p4)] [.int x1] M F := by
    intro x1 hf
    rw [k2e] at hf
    refine z_istore (lv' := [(5, .int x1), (0, .ref (G.1 60)), (1, .int p1), (2, .int p2), (3, .int p3), (4, .int p4)]) X dX7_goesTo_17 hm (by decide) rfl ?_
    refine z_iload_n X dX7_goesTo_19 rfl 2 rfl ?_
    obtain ⟨k8, k8e, hf⟩ := zj_sp hf
    have hj9 : ∀ (x7 : Int32), k8 x7 = some ro → zV κ G 52 [(5, .int x1), (0, .ref (G.1 60)), (1, .int p1), (2, .int p2), (3, .int p3), (4, .int p4)] [.int x7] M F := by
      intro x7 hf
      rw [k8e] at hf
      refine z_istore (lv' := [(6, .int x7), (5, .int x1), (0, .ref (G.1 60)), (1, .int p1), (2, .int p2), (3, .int p3), (4, .int p4)]) X dX7_goesTo_52 hm (by decide) rfl ?_
      refine z_aload_n X dX7_goesTo_54 rfl 2 rfl ?_
      refine z_iload X dX7_goesTo_55 1 rfl ?_
      obtain ⟨r17, h16, hf⟩ := zb1_sp hf
      refine gc_X7_70 (st := []) X (mtX7_isColumn κ.2.1 κ.2.2.2.2.2.2.2.2.2.2.1 G  h16) rfl rfl (Nat.le_of_ble_eq_true rfl) (Nat.le_of_ble_eq_true rfl) (Nat.le_of_ble_eq_true rfl) dX7_goesTo_57 ?_
      obtain ⟨k19, k19e, hf⟩ := zj_sp hf
      have hj20 : ∀ (x18 : Int32), k19 x18 = some ro → zV κ G 84 [(6, .int x7), (5, .int x1), (0, .ref (G.1 60)), (1, .int p1), (2, .int p2), (3, .int p3), (4, .int p4)] [.int x18] M F := by
        intro x18 hf
        rw [k19e] at hf
        exact z_iret X (zR_i hf Z) dX7_goesTo_84
      clear k19e
      refine z_if_eq (tgt := 82) X dX7_goesTo_60 (by decide) (fun h24 => ?_) (fun h24 => ?_)
      · have hf := zt h24 hf
        refine z_bipush (v := (-9 : Int32)) X dX7_goesTo_82 (by decide) ?_
        exact hj20 (-9 : Int32) hf
      · have hf := zf h24 hf
        refine z_iload X dX7_goesTo_63 0 rfl ?_
        obtain ⟨r22, h21, hf⟩ := zb1_sp hf
        refine gc_X7_74 (st := []) X (mtX7_isRow κ.2.1 κ.2.2.2.2.2.2.2.2.2.2.1 G  h21) rfl rfl (Nat.le_of_ble_eq_true rfl) (Nat.le_of_ble_eq_true rfl) (Nat.le_of_ble_eq_true rfl) dX7_goesTo_65 ?_
        refine z_if_eq (tgt := 82) X dX7_goesTo_68 (by decide) (fun h23 => ?_) (fun h23 => ?_)
        · have hf := zt h23 hf
          refine z_bipush (v := (-9 : Int32)) X dX7_goesTo_82 (by decide) ?_
          exact hj20 (-9 : Int32) hf
        · have hf := zf h23 hf
          refine z_bipush (v := (32 : Int32)) X dX7_goesTo_71 (by decide) ?_
          refine z_iload X dX7_goesTo_73 1 rfl ?_
          refine z_imul X dX7_goesTo_75 ?_
          refine z_iload X dX7_goesTo_76 0 rfl ?_
          refine z_iadd X dX7_goesTo_78 ?_
          refine z_goto (tgt := 84) X dX7_goesTo_79 (by decide) ?_
          exact hj20 (((32 : Int32) * x1) + x7) hf
    clear k8e
    refine z_if_ne (tgt := 34) X dX7_goesTo_20 (by decide) (fun h15 => ?_) (fun h15 => ?_)
    · have hf := zf h15 hf
      refine z_iload_n X dX7_goesTo_34 rfl 2 rfl ?_
      refine z_iconst (v := (1 : Int32)) X dX7_goesTo_35 (by decide) ?_
      refine z_icmp_ne (tgt := 44) X dX7_goesTo_36 (by decide) (fun h12 => ?_) (fun h12 => ?_)
      · have hf := zf h12 hf
        refine z_iload X dX7_goesTo_44 5 rfl ?_
        refine z_aload_n X dX7_goesTo_46 rfl 1 rfl ?_
        refine z_iload_n X dX7_goesTo_47 rfl 4 rfl ?_
        obtain ⟨r11, h10, hf⟩ := zb1_sp hf
        refine gc_X7_161 (st := [.int p4]) X (mtX7_curlOf κ.2.1 κ.2.2.2.2.2.2.2.2.2.2.1 G  h10) rfl rfl (Nat.le_of_ble_eq_true rfl) (Nat.le_of_ble_eq_true rfl) (Nat.le_of_ble_eq_true rfl) dX7_goesTo_48 ?_
        refine z_isub X dX7_goesTo_51 ?_
        exact hj9 (p4 - r11) hf
      · have hf := zt h12 hf
        refine z_iload X dX7_goesTo_39 5 rfl ?_
        refine z_goto (tgt := 52) X dX7_goesTo_41 (by decide) ?_
        exact hj9 p4 hf
    · have hf := zt h15 hf
      refine z_iload_n X dX7_goesTo_23 rfl 2 rfl ?_
      refine z_iload_n X dX7_goesTo_24 rfl 3 rfl ?_
      refine z_iload_n X dX7_goesTo_25 rfl 4 rfl ?_
      refine z_iload X dX7_goesTo_26 5 rfl ?_
      obtain ⟨r14, h13, hf⟩ := zb1_sp hf
      refine gc_X7_130 (st := []) X (mtX7_sheared κ.2.1 κ.2.2.2.2.2.2.2.2.2.2.1 G  h13) rfl rfl (Nat.le_of_ble_eq_true rfl) (Nat.le_of_ble_eq_true rfl) (Nat.le_of_ble_eq_true rfl) dX7_goesTo_28 ?_
      refine z_goto (tgt := 52) X dX7_goesTo_31 (by decide) ?_
      exact hj9 r14 hf
  clear k2e
  refine z_icmp_ne (tgt := 16) X dX7_goesTo_2 (by decide) (fun h6 => ?_) (fun h6 => ?_)
  · have hf := zf h6 hf
    refine z_iload_n X dX7_goesTo_16 rfl 3 rfl ?_
    exact hj3 p3 hf
  · have hf := zt h6 hf
    refine z_iload_n X dX7_goesTo_5 rfl 1 rfl ?_
    refine z_iload_n X dX7_goesTo_6 rfl 2 rfl ?_
    refine z_iload_n X dX7_goesTo_7 rfl 3 rfl ?_
    refine z_iload X dX7_goesTo_8 4 rfl ?_
    obtain ⟨r5, h4, hf⟩ := zb1_sp hf
    refine gc_X7_130 (st := []) X (mtX7_sheared κ.2.1 κ.2.2.2.2.2.2.2.2.2.2.1 G  h4) rfl rfl (Nat.le_of_ble_eq_true rfl) (Nat.le_of_ble_eq_true rfl) (Nat.le_of_ble_eq_true rfl) dX7_goesTo_10 ?_
    refine z_goto (tgt := 17) X dX7_goesTo_13 (by decide) ?_
    exact hj3 r5 hf
set_option maxHeartbeats 4000000 in
set_option maxRecDepth 100000 in
theorem mtX7_moveAll (l : Launch) (D : va_G) (G : zG) {p1 : Int32} {p2 : Int32} {M : zMem} {F : Int64} {ro : Int32} {Mo : zMem} (hf : fX7_moveAll p1 p2 M = some (ro, Mo)) : zCM l yX7_moveAll wX7_moveAll { frames := 5, cells := 0, slots := 0, locals := 113 } D G [.ref (G.1 60), .int p1, .int p2] M F (some (.int ro)) Mo F := by
  refine zCM.ofV (own := RX7) (cc := cX7_moveAll) (maxL := 6) (ret := (some .int)) (lv := [(0, .ref (G.1 60)), (1, .int p1), (2, .int p2)]) (by decide) rfl rfl (Nat.le_of_ble_eq_true rfl) rfl (fun κ X Z hm hκ1 hκ2 => ?_)
  subst hκ1 hκ2
  unfold fX7_moveAll at hf
  refine z_iconst (v := (0 : Int32)) X dX7_moveAll_0 (by decide) ?_
  refine z_istore_n (lv' := [(3, .int (0 : Int32)), (0, .ref (G.1 60)), (1, .int p1), (2, .int p2)]) X dX7_moveAll_1 rfl hm (by decide) rfl ?_
  refine z_iconst (v := (0 : Int32)) X dX7_moveAll_2 (by decide) ?_
  refine z_istore (lv' := [(4, .int (0 : Int32)), (3, .int (0 : Int32)), (0, .ref (G.1 60)), (1, .int p1), (2, .int p2)]) X dX7_moveAll_3 hm (by decide) rfl ?_
  obtain ⟨b8, hb9, hf⟩ := zb1_sp hf
  have hX3 : ∀ t, t = b8 → zu2 (fun (x13 : Int32) (M14 : zMem) => zV κ G 27 [(4, .int x13), (3, .int (0 : Int32)), (0, .ref (G.1 60)), (1, .int p1), (2, .int p2)] [] M14 F) t := by
    intro t ht
    subst ht
    obtain ⟨x13, M14⟩ := t
    show zV κ G 27 [(4, .int x13), (3, .int (0 : Int32)), (0, .ref (G.1 60)), (1, .int p1), (2, .int p2)] [] M14 F
    refine z_iconst (v := (0 : Int32)) X dX7_moveAll_27 (by decide) ?_
    refine z_istore (lv' := [(4, .int (0 : Int32)), (3, .int (0 : Int32)), (0, .ref (G.1 60)), (1, .int p1), (2, .int p2)]) X dX7_moveAll_28 hm (by decide) rfl ?_
    obtain ⟨b23, hb24, hf⟩ := zbr_sp hf
    have hX18 : ∀ t, Sum.inl t = b23 → zu3 (fun (x35 : Int32) (x36 : Int32) (M37 : zMem) => zV κ G 109 [(4, .int x35), (3, .int x36), (0, .ref (G.1 60)), (1, .int p1), (2, .int p2)] [] M37 F) t := by
      intro t ht
      subst ht
      obtain ⟨x35, x36, M37⟩ := t
      show zV κ G 109 [(4, .int x35), (3, .int x36), (0, .ref (G.1 60)), (1, .int p1), (2, .int p2)] [] M37 F
      refine z_aload_n X dX7_moveAll_109 rfl 2 rfl ?_
      obtain ⟨M39, h38, hf⟩ := zb1_sp hf
      refine gc_X7_167 (st := []) X (mtX7_keeps κ.2.1 κ.2.2.2.2.2.2.2.2.2.2.1 G  h38) rfl rfl (Nat.le_of_ble_eq_true rfl) (Nat.le_of_ble_eq_true rfl) (Nat.le_of_ble_eq_true rfl) dX7_moveAll_110 ?_
      refine z_iconst (v := (0 : Int32)) X dX7_moveAll_113 (by decide) ?_
      refine z_istore (lv' := [(4, .int (0 : Int32)), (3, .int x36), (0, .ref (G.1 60)), (1, .int p1), (2, .int p2)]) X dX7_moveAll_114 hm (by decide) rfl ?_
      refine z_sub [0, 1, 2] rfl ?_
      obtain ⟨b47, hb48, hf⟩ := zb1_sp hf
      have hX42 : ∀ t, t = b47 → zu2 (fun (x53 : Int32) (M54 : zMem) => zV κ G 144 [(4, .int x53), (3, .int x36), (0, .ref (G.1 60))] [] M54 F) t := by
        intro t ht
        subst ht
        obtain ⟨x53, M54⟩ := t
        show zV κ G 144 [(4, .int x53), (3, .int x36), (0, .ref (G.1 60))] [] M54 F
        refine z_iload_n X dX7_moveAll_144 rfl 1 rfl ?_
        exact z_iret X (zR_iM hf Z) dX7_moveAll_145
      refine zlp_walk (P := zu2 (fun (x40 : Int32) (M41 : zMem) => zV κ G 116 [(4, .int x40), (3, .int x36), (0, .ref (G.1 60))] [] M41 F)) (fun a55 w46 hf hi44 hx45 => ?_) _ _ hb48
      obtain ⟨x40, M41⟩ := a55
      show zV κ G 116 [(4, .int x40), (3, .int x36), (0, .ref (G.1 60))] [] M41 F
      replace hf : fX7_moveAll_L116 x40 M41 = some w46 := hf
      unfold fX7_moveAll_L116 at hf
      refine z_iload X dX7_moveAll_116 0 rfl ?_
      refine z_sipush (v := (768 : Int32)) X dX7_moveAll_118 (by decide) ?_
      refine z_icmp_ge (tgt := 144) X dX7_moveAll_121 (by decide) (fun h52 => ?_) (fun h52 => ?_)
      · have hf := zt h52 hf
        have hq := hX42 _ (hx45 _ (Option.some.inj hf).symm)
        exact hq
      · have hf := zf h52 hf
        refine z_aload_n X dX7_moveAll_124 rfl 2 rfl ?_
        refine gf_X7_13 X dX7_moveAll_125 ?_
        refine z_iload X dX7_moveAll_128 0 rfl ?_
        refine z_aload_n X dX7_moveAll_130 rfl 2 rfl ?_
        refine gf_X7_39 X dX7_moveAll_131 ?_
        refine z_iload X dX7_moveAll_134 0 rfl ?_
        obtain ⟨h49, hf⟩ := zc_sp hf
        refine z_zald X zc_69 zl_69 (zin_sp h49) dX7_moveAll_136 ?_
        obtain ⟨h50, hf⟩ := zc_sp hf
        refine z_zast X zc_61 zl_61 (zin_sp h50) dX7_moveAll_137 ?_
        refine z_nmM hf (fun M51 hf => ?_)
        refine z_iinc (lv' := [(4, .int (x40 + (1 : Int32))), (3, .int x36), (0, .ref (G.1 60))]) (v := x40 + (1 : Int32)) X dX7_moveAll_138 (j := 0) rfl rfl hm (by decide) rfl ?_
        refine z_goto (tgt := 116) X dX7_moveAll_141 (by decide) ?_
        have hq := hi44 _ (Option.some.inj hf).symm
        exact hq
    have hR19 : ∀ r, Sum.inr r = b23 → some r = some (ro, Mo) := by
      intro r hr
      subst hr
      exact hf
    refine zlp_walk (P := zu3 (fun (x15 : Int32) (x16 : Int32) (M17 : zMem) => zV κ G 30 [(4, .int x15), (3, .int x16), (0, .ref (G.1 60)), (1, .int p1), (2, .int p2)] [] M17 F)) (fun a56 w22 hf hi20 hx21 => ?_) _ _ hb24
    obtain ⟨x15, x16, M17⟩ := a56
    show zV κ G 30 [(4, .int x15), (3, .int x16), (0, .ref (G.1 60)), (1, .int p1), (2, .int p2)] [] M17 F
    replace hf : fX7_moveAll_L30 p1 p2 x15 x16 M17 = some w22 := hf
    unfold fX7_moveAll_L30 at hf
    refine z_iload X dX7_moveAll_30 0 rfl ?_
    refine z_bipush (v := (32 : Int32)) X dX7_moveAll_32 (by decide) ?_
    refine z_aload_n X dX7_moveAll_34 rfl 2 rfl ?_
    refine gf_X7_7 X dX7_moveAll_35 ?_
    refine z_imul X dX7_moveAll_38 ?_
    refine z_icmp_ge (tgt := 109) X dX7_moveAll_39 (by decide) (fun h34 => ?_) (fun h34 => ?_)
    · have hf := zt h34 hf
      have hq := hX18 _ (hx21 _ (Option.some.inj hf).symm)
      exact hq
    · have hf := zf h34 hf
      refine z_aload_n X dX7_moveAll_42 rfl 2 rfl ?_
      refine gf_X7_13 X dX7_moveAll_43 ?_
      refine z_iload X dX7_moveAll_46 0 rfl ?_
      obtain ⟨h25, hf⟩ := zc_sp hf
      refine z_zald X zc_61 zl_61 (zin_sp h25) dX7_moveAll_48 ?_
      refine z_if_eq (tgt := 103) X dX7_moveAll_49 (by decide) (fun h33 => ?_) (fun h33 => ?_)
      · have hf := zt h33 hf
        refine z_iinc (lv' := [(4, .int (x15 + (1 : Int32))), (3, .int x16), (0, .ref (G.1 60)), (1, .int p1), (2, .int p2)]) (v := x15 + (1 : Int32)) X dX7_moveAll_103 (j := 0) rfl rfl hm (by decide) rfl ?_
        refine z_goto (tgt := 30) X dX7_moveAll_106 (by decide) ?_
        have hq := hi20 _ (Option.some.inj hf).symm
        exact hq
      · have hf := zf h33 hf
        refine z_aload_n X dX7_moveAll_52 rfl 2 rfl ?_
        refine z_iload_n X dX7_moveAll_53 rfl 3 rfl ?_
        refine z_iload_n X dX7_moveAll_54 rfl 4 rfl ?_
        refine z_iload X dX7_moveAll_55 0 rfl ?_
        refine z_bipush (v := (32 : Int32)) X dX7_moveAll_57 (by decide) ?_
        refine z_idiv X dX7_moveAll_59 (by decide) ?_
        refine z_iload X dX7_moveAll_60 0 rfl ?_
        refine z_bipush (v := (32 : Int32)) X dX7_moveAll_62 (by decide) ?_
        refine z_irem X dX7_moveAll_64 (by decide) ?_
        obtain ⟨r27, h26, hf⟩ := zb1_sp hf
        refine gc_X7_164 (st := []) X (mtX7_goesTo κ.2.1 κ.2.2.2.2.2.2.2.2.2.2.1 G  h26) rfl rfl (Nat.le_of_ble_eq_true rfl) (Nat.le_of_ble_eq_true rfl) (Nat.le_of_ble_eq_true rfl) dX7_moveAll_65 ?_
        refine z_istore (lv' := [(5, .int r27), (4, .int x15), (3, .int x16), (0, .ref (G.1 60)), (1, .int p1), (2, .int p2)]) X dX7_moveAll_68 hm (by decide) rfl ?_
        refine z_iload X dX7_moveAll_70 0 rfl ?_
        refine z_bipush (v := (-9 : Int32)) X dX7_moveAll_72 (by decide) ?_
        refine z_icmp_ne (tgt := 80) X dX7_moveAll_74 (by decide) (fun h32 => ?_) (fun h32 => ?_)
        · have hf := zf h32 hf
          refine z_aload_n X dX7_moveAll_80 rfl 3 rfl ?_
          refine gf_X7_39 X dX7_moveAll_81 ?_
          refine z_iload X dX7_moveAll_84 0 rfl ?_
          refine z_iconst (v := (1 : Int32)) X dX7_moveAll_86 (by decide) ?_
          obtain ⟨h28, hf⟩ := zc_sp hf
          refine z_zast X zc_69 zl_69 (zin_sp h28) dX7_moveAll_87 ?_
          refine z_nmM hf (fun M29 hf => ?_)
          refine z_iload_n X dX7_moveAll_88 rfl 2 rfl ?_
          refine z_iload X dX7_moveAll_89 0 rfl ?_
          refine z_iload X dX7_moveAll_91 1 rfl ?_
          have hj : zV κ G 101 [(5, .int r27), (4, .int x15), (3, .int x16), (0, .ref (G.1 60)), (1, .int p1), (2, .int p2)] [.int (if r27 = x15 then (0 : Int32) else (1 : Int32)), .int x16] M29 F := by
            refine z_iadd X dX7_moveAll_101 ?_
            refine z_nmI hf (fun x31 hf => ?_)
            refine z_istore_n (lv' := [(3, .int x31), (5, .int r27), (4, .int x15), (0, .ref (G.1 60)), (1, .int p1), (2, .int p2)]) X dX7_moveAll_102 rfl hm (by decide) rfl ?_
            refine z_iinc (lv' := [(4, .int (x15 + (1 : Int32))), (3, .int x31), (5, .int r27), (0, .ref (G.1 60)), (1, .int p1), (2, .int p2)]) (v := x15 + (1 : Int32)) X dX7_moveAll_103 (j := 2) rfl rfl hm (by decide) rfl ?_
            refine z_goto (tgt := 30) X dX7_moveAll_106 (by decide) ?_
            refine z_sub [0, 1, 3, 4, 5] rfl ?_
            have hq := hi20 _ (Option.some.inj hf).symm
            exact hq
          refine z_icmp_ne (tgt := 100) X dX7_moveAll_93 (by decide) (fun h30 => ?_) (fun h30 => ?_)
          · try simp only [if_neg h30] at hj
            refine z_iconst (v := (1 : Int32)) X dX7_moveAll_100 (by decide) ?_
            exact hj
          · try simp only [if_pos h30] at hj
            refine z_iconst (v := (0 : Int32)) X dX7_moveAll_96 (by decide) ?_
            refine z_goto (tgt := 101) X dX7_moveAll_97 (by decide) ?_
            exact hj
        · have hf := zt h32 hf
          refine z_bipush (v := (-3 : Int32)) X dX7_moveAll_77 (by decide) ?_
          have hf := hR19 _ (hx21 _ (Option.some.inj hf).symm)
          exact z_iret X (zR_iM hf Z) dX7_moveAll_79
  refine zlp_walk (P := zu2 (fun (x1 : Int32) (M2 : zMem) => zV κ G 5 [(4, .int x1), (3, .int (0 : Int32)), (0, .ref (G.1 60)), (1, .int p1), (2, .int p2)] [] M2 F)) (fun a57 w7 hf hi5 hx6 => ?_) _ _ hb9
  obtain ⟨x1, M2⟩ := a57
  show zV κ G 5 [(4, .int x1), (3, .int (0 : Int32)), (0, .ref (G.1 60)), (1, .int p1), (2, .int p2)] [] M2 F
  replace hf : fX7_moveAll_L5 x1 M2 = some w7 := hf
  unfold fX7_moveAll_L5 at hf
  refine z_iload X dX7_moveAll_5 0 rfl ?_
  refine z_sipush (v := (768 : Int32)) X dX7_moveAll_7 (by decide) ?_
  refine z_icmp_ge (tgt := 27) X dX7_moveAll_10 (by decide) (fun h12 => ?_) (fun h12 => ?_)
  · have hf := zt h12 hf
    have hq := hX3 _ (hx6 _ (Option.some.inj hf).symm)
    exact hq
  · have hf := zf h12 hf
    refine z_aload_n X dX7_moveAll_13 rfl 2 rfl ?_
    refine gf_X7_39 X dX7_moveAll_14 ?_
    refine z_iload X dX7_moveAll_17 0 rfl ?_
    refine z_iconst (v := (0 : Int32)) X dX7_moveAll_19 (by decide) ?_
    obtain ⟨h10, hf⟩ := zc_sp hf
    refine z_zast X zc_69 zl_69 (zin_sp h10) dX7_moveAll_20 ?_
    refine z_nmM hf (fun M11 hf => ?_)
    refine z_iinc (lv' := [(4, .int (x1 + (1 : Int32))), (3, .int (0 : Int32)), (0, .ref (G.1 60)), (1, .int p1), (2, .int p2)]) (v := x1 + (1 : Int32)) X dX7_moveAll_21 (j := 0) rfl rfl hm (by decide) rfl ?_
    refine z_goto (tgt := 5) X dX7_moveAll_24 (by decide) ?_
    have hq := hi5 _ (Option.some.inj hf).symm
    exact hq
set_option maxHeartbeats 4000000 in
set_option maxRecDepth 100000 in
theorem mtX7_shear (l : Launch) (D : va_G) (G : zG) {p1 : Int32} {p2 : Int32} {M : zMem} {F : Int64} {ro : Int32} {Mo : zMem} (hf : fX7_shear p1 p2 M = some (ro, Mo)) : zCM l yX7_shear wX7_shear { frames := 6, cells := 0, slots := 0, locals := 138 } D G [.ref (G.1 60), .int p1, .int p2] M F (some (.int ro)) Mo F := by
  refine zCM.ofV (own := RX7) (cc := cX7_shear) (maxL := 3) (ret := (some .int)) (lv := [(0, .ref (G.1 60)), (1, .int p1), (2, .int p2)]) (by decide) rfl rfl (Nat.le_of_ble_eq_true rfl) rfl (fun κ X Z hm hκ1 hκ2 => ?_)
  subst hκ1 hκ2
  unfold fX7_shear at hf
  refine z_iload_n X dX7_shear_0 rfl 1 rfl ?_
  obtain ⟨r2, h1, hf⟩ := zb1_sp hf
  refine gc_X7_124 (st := []) X (mtX7_isAxis κ.2.1 κ.2.2.2.2.2.2.2.2.2.2.1 G  h1) rfl rfl (Nat.le_of_ble_eq_true rfl) (Nat.le_of_ble_eq_true rfl) (Nat.le_of_ble_eq_true rfl) dX7_shear_1 ?_
  obtain ⟨k5, k5e, hf⟩ := zj_sp hf
  have hj6 : ∀ (x3 : Int32) (M4 : zMem), k5 x3 M4 = some (ro, Mo) → zV κ G 25 [(0, .ref (G.1 60)), (1, .int p1), (2, .int p2)] [.int x3] M4 F := by
    intro x3 M4 hf
    rw [k5e] at hf
    exact z_iret X (zR_iM hf Z) dX7_shear_25
  clear k5e
  refine z_if_eq (tgt := 23) X dX7_shear_4 (by decide) (fun h13 => ?_) (fun h13 => ?_)
  · have hf := zt h13 hf
    refine z_bipush (v := (-2 : Int32)) X dX7_shear_23 (by decide) ?_
    exact hj6 (-2 : Int32) M hf
  · have hf := zf h13 hf
    refine z_iload_n X dX7_shear_7 rfl 2 rfl ?_
    obtain ⟨r8, h7, hf⟩ := zb1_sp hf
    refine gc_X7_127 (st := []) X (mtX7_isShear κ.2.1 κ.2.2.2.2.2.2.2.2.2.2.1 G  h7) rfl rfl (Nat.le_of_ble_eq_true rfl) (Nat.le_of_ble_eq_true rfl) (Nat.le_of_ble_eq_true rfl) dX7_shear_8 ?_
    refine z_if_eq (tgt := 23) X dX7_shear_11 (by decide) (fun h12 => ?_) (fun h12 => ?_)
    · have hf := zt h12 hf
      refine z_bipush (v := (-2 : Int32)) X dX7_shear_23 (by decide) ?_
      exact hj6 (-2 : Int32) M hf
    · have hf := zf h12 hf
      refine z_aload_n X dX7_shear_14 rfl 0 rfl ?_
      refine z_iload_n X dX7_shear_15 rfl 1 rfl ?_
      refine z_iload_n X dX7_shear_16 rfl 2 rfl ?_
      obtain ⟨r10, M11, h9, hf⟩ := zb2_sp hf
      refine gc_X7_170 (st := []) X (mtX7_moveAll κ.2.1 κ.2.2.2.2.2.2.2.2.2.2.1 G  h9) rfl rfl (Nat.le_of_ble_eq_true rfl) (Nat.le_of_ble_eq_true rfl) (Nat.le_of_ble_eq_true rfl) dX7_shear_17 ?_
      refine z_goto (tgt := 25) X dX7_shear_20 (by decide) ?_
      exact hj6 r10 M11 hf
set_option maxHeartbeats 4000000 in
set_option maxRecDepth 100000 in
theorem mtX7_back (l : Launch) (D : va_G) (G : zG) {M : zMem} {F : Int64} {ro : Int32} {Mo : zMem} (hf : fX7_back M = some (ro, Mo)) : zCM l yX7_back wX7_back { frames := 0, cells := 0, slots := 0, locals := 0 } D G [.ref (G.1 60)] M F (some (.int ro)) Mo F := by
  refine zCM.ofV (own := RX7) (cc := cX7_back) (maxL := 2) (ret := (some .int)) (lv := [(0, .ref (G.1 60))]) (by decide) rfl rfl (Nat.le_of_ble_eq_true rfl) rfl (fun κ X Z hm hκ1 hκ2 => ?_)
  subst hκ1 hκ2
  unfold fX7_back at hf
  refine z_aload_n X dX7_back_0 rfl 0 rfl ?_
  refine gf_X7_81 X dX7_back_1 ?_
  refine z_if_ne (tgt := 10) X dX7_back_4 (by decide) (fun h18 => ?_) (fun h18 => ?_)
  · have hf := zf h18 hf
    refine z_aload_n X dX7_back_10 rfl 0 rfl ?_
    refine z_dup X dX7_back_11 rfl ?_
    refine gf_X7_81 X dX7_back_12 ?_
    refine z_iconst (v := (1 : Int32)) X dX7_back_15 (by decide) ?_
    refine z_isub X dX7_back_16 ?_
    refine pf_X7_81 X dX7_back_17 ?_
    refine z_nmM hf (fun M1 hf => ?_)
    refine z_iconst (v := (0 : Int32)) X dX7_back_20 (by decide) ?_
    refine z_istore_n (lv' := [(1, .int (0 : Int32)), (0, .ref (G.1 60))]) X dX7_back_21 rfl hm (by decide) rfl ?_
    obtain ⟨b9, hb10, hf⟩ := zb1_sp hf
    have hX4 : ∀ t, t = b9 → zu2 (fun (x15 : Int32) (M16 : zMem) => zV κ G 56 [(1, .int x15), (0, .ref (G.1 60))] [] M16 F) t := by
      intro t ht
      subst ht
      obtain ⟨x15, M16⟩ := t
      show zV κ G 56 [(1, .int x15), (0, .ref (G.1 60))] [] M16 F
      refine z_aload_n X dX7_back_56 rfl 1 rfl ?_
      refine gf_X7_81 X dX7_back_57 ?_
      exact z_iret X (zR_iM hf Z) dX7_back_60
    refine zlp_walk (P := zu2 (fun (x2 : Int32) (M3 : zMem) => zV κ G 22 [(1, .int x2), (0, .ref (G.1 60))] [] M3 F)) (fun a17 w8 hf hi6 hx7 => ?_) _ _ hb10
    obtain ⟨x2, M3⟩ := a17
    show zV κ G 22 [(1, .int x2), (0, .ref (G.1 60))] [] M3 F
    replace hf : fX7_back_L22 x2 M3 = some w8 := hf
    unfold fX7_back_L22 at hf
    refine z_iload_n X dX7_back_22 rfl 0 rfl ?_
    refine z_sipush (v := (768 : Int32)) X dX7_back_23 (by decide) ?_
    refine z_icmp_ge (tgt := 56) X dX7_back_26 (by decide) (fun h14 => ?_) (fun h14 => ?_)
    · have hf := zt h14 hf
      have hq := hX4 _ (hx7 _ (Option.some.inj hf).symm)
      exact hq
    · have hf := zf h14 hf
      refine z_aload_n X dX7_back_29 rfl 1 rfl ?_
      refine gf_X7_13 X dX7_back_30 ?_
      refine z_iload_n X dX7_back_33 rfl 0 rfl ?_
      refine z_aload_n X dX7_back_34 rfl 1 rfl ?_
      refine gf_X7_36 X dX7_back_35 ?_
      refine z_sipush (v := (768 : Int32)) X dX7_back_38 (by decide) ?_
      refine z_aload_n X dX7_back_41 rfl 1 rfl ?_
      refine gf_X7_81 X dX7_back_42 ?_
      refine z_imul X dX7_back_45 ?_
      refine z_iload_n X dX7_back_46 rfl 0 rfl ?_
      refine z_iadd X dX7_back_47 ?_
      obtain ⟨h11, hf⟩ := zc_sp hf
      refine z_zald X zc_68 zl_68 (zin_sp h11) dX7_back_48 ?_
      obtain ⟨h12, hf⟩ := zc_sp hf
      refine z_zast X zc_61 zl_61 (zin_sp h12) dX7_back_49 ?_
      refine z_nmM hf (fun M13 hf => ?_)
      refine z_iinc (lv' := [(1, .int (x2 + (1 : Int32))), (0, .ref (G.1 60))]) (v := x2 + (1 : Int32)) X dX7_back_50 (j := 0) rfl rfl hm (by decide) rfl ?_
      refine z_goto (tgt := 22) X dX7_back_53 (by decide) ?_
      have hq := hi6 _ (Option.some.inj hf).symm
      exact hq
  · have hf := zt h18 hf
    refine z_bipush (v := (-3 : Int32)) X dX7_back_7 (by decide) ?_
    exact z_iret X (zR_iM hf Z) dX7_back_9
set_option maxHeartbeats 4000000 in
set_option maxRecDepth 100000 in
theorem mtX7_findRuns (l : Launch) (D : va_G) (G : zG) {M : zMem} {F : Int64} {Mo : zMem} (hf : fX7_findRuns M = some Mo) : zCM l yX7_findRuns wX7_findRuns { frames := 3, cells := 0, slots := 0, locals := 65 } D G [.ref (G.1 60)] M F none Mo F := by
  refine zCM.ofV (own := RX7) (cc := cX7_findRuns) (maxL := 3) (ret := none) (lv := [(0, .ref (G.1 60))]) (by decide) rfl rfl (Nat.le_of_ble_eq_true rfl) rfl (fun κ X Z hm hκ1 hκ2 => ?_)
  subst hκ1 hκ2
  unfold fX7_findRuns at hf
  refine z_aload_n X dX7_findRuns_0 rfl 0 rfl ?_
  refine z_iconst (v := (0 : Int32)) X dX7_findRuns_1 (by decide) ?_
  refine pf_X7_173 X dX7_findRuns_2 ?_
  refine z_nmM hf (fun M1 hf => ?_)
  refine z_iconst (v := (0 : Int32)) X dX7_findRuns_5 (by decide) ?_
  refine z_istore_n (lv' := [(1, .int (0 : Int32)), (0, .ref (G.1 60))]) X dX7_findRuns_6 rfl hm (by decide) rfl ?_
  obtain ⟨b9, hb10, hf⟩ := zb1_sp hf
  have hX4 : ∀ t, t = b9 → zu2 (fun (x52 : Int32) (M53 : zMem) => zV κ G 130 [(1, .int x52), (0, .ref (G.1 60))] [] M53 F) t := by
    intro t ht
    subst ht
    obtain ⟨x52, M53⟩ := t
    show zV κ G 130 [(1, .int x52), (0, .ref (G.1 60))] [] M53 F
    exact z_vret X (zR_M hf Z) dX7_findRuns_130
  refine zlp_walk (P := zu2 (fun (x2 : Int32) (M3 : zMem) => zV κ G 7 [(1, .int x2), (0, .ref (G.1 60))] [] M3 F)) (fun a54 w8 hf hi6 hx7 => ?_) _ _ hb10
  obtain ⟨x2, M3⟩ := a54
  show zV κ G 7 [(1, .int x2), (0, .ref (G.1 60))] [] M3 F
  replace hf : fX7_findRuns_L7 x2 M3 = some w8 := hf
  unfold fX7_findRuns_L7 at hf
  refine z_iload_n X dX7_findRuns_7 rfl 0 rfl ?_
  refine z_bipush (v := (32 : Int32)) X dX7_findRuns_8 (by decide) ?_
  refine z_icmp_ge (tgt := 130) X dX7_findRuns_10 (by decide) (fun h51 => ?_) (fun h51 => ?_)
  · have hf := zt h51 hf
    have hq := hX4 _ (hx7 _ (Option.some.inj hf).symm)
    exact hq
  · have hf := zf h51 hf
    refine z_iconst (v := (0 : Int32)) X dX7_findRuns_13 (by decide) ?_
    refine z_istore_n (lv' := [(2, .int (0 : Int32)), (1, .int x2), (0, .ref (G.1 60))]) X dX7_findRuns_14 rfl hm (by decide) rfl ?_
    obtain ⟨b18, hb19, hf⟩ := zb1_sp hf
    have hX13 : ∀ t, t = b18 → zu2 (fun (x48 : Int32) (M49 : zMem) => zV κ G 124 [(2, .int x48), (1, .int x2), (0, .ref (G.1 60))] [] M49 F) t := by
      intro t ht
      subst ht
      obtain ⟨x48, M49⟩ := t
      show zV κ G 124 [(2, .int x48), (1, .int x2), (0, .ref (G.1 60))] [] M49 F
      refine z_iinc (lv' := [(1, .int (x2 + (1 : Int32))), (2, .int x48), (0, .ref (G.1 60))]) (v := x2 + (1 : Int32)) X dX7_findRuns_124 (j := 1) rfl rfl hm (by decide) rfl ?_
      refine z_goto (tgt := 7) X dX7_findRuns_127 (by decide) ?_
      refine z_sub [0, 2] rfl ?_
      have hq := hi6 _ (Option.some.inj hf).symm
      exact hq
    refine zlp_walk (P := zu2 (fun (x11 : Int32) (M12 : zMem) => zV κ G 15 [(2, .int x11), (1, .int x2), (0, .ref (G.1 60))] [] M12 F)) (fun a50 w17 hf hi15 hx16 => ?_) _ _ hb19
    obtain ⟨x11, M12⟩ := a50
    show zV κ G 15 [(2, .int x11), (1, .int x2), (0, .ref (G.1 60))] [] M12 F
    replace hf : fX7_findRuns_L15 x2 x11 M12 = some w17 := hf
    unfold fX7_findRuns_L15 at hf
    refine z_iload_n X dX7_findRuns_15 rfl 0 rfl ?_
    refine z_aload_n X dX7_findRuns_16 rfl 2 rfl ?_
    refine gf_X7_7 X dX7_findRuns_17 ?_
    refine z_icmp_ge (tgt := 124) X dX7_findRuns_20 (by decide) (fun h47 => ?_) (fun h47 => ?_)
    · have hf := zt h47 hf
      have hq := hX13 _ (hx16 _ (Option.some.inj hf).symm)
      exact hq
    · have hf := zf h47 hf
      refine z_aload_n X dX7_findRuns_23 rfl 2 rfl ?_
      refine z_iload_n X dX7_findRuns_24 rfl 0 rfl ?_
      refine z_iload_n X dX7_findRuns_25 rfl 1 rfl ?_
      obtain ⟨r21, h20, hf⟩ := zb1_sp hf
      refine gc_X7_88 (st := []) X (mtX7_isDot κ.2.1 κ.2.2.2.2.2.2.2.2.2.2.1 G  h20) rfl rfl (Nat.le_of_ble_eq_true rfl) (Nat.le_of_ble_eq_true rfl) (Nat.le_of_ble_eq_true rfl) dX7_findRuns_26 ?_
      obtain ⟨k23, k23e, hf⟩ := zj_sp hf
      have hj24 : ∀ (M22 : zMem), k23 M22 = some w17 → zV κ G 94 [(2, .int x11), (1, .int x2), (0, .ref (G.1 60))] [] M22 F := by
        intro M22 hf
        rw [k23e] at hf
        refine z_aload_n X dX7_findRuns_94 rfl 2 rfl ?_
        refine z_iload_n X dX7_findRuns_95 rfl 0 rfl ?_
        refine z_iload_n X dX7_findRuns_96 rfl 1 rfl ?_
        obtain ⟨r39, h38, hf⟩ := zb1_sp hf
        refine gc_X7_88 (st := []) X (mtX7_isDot κ.2.1 κ.2.2.2.2.2.2.2.2.2.2.1 G  h38) rfl rfl (Nat.le_of_ble_eq_true rfl) (Nat.le_of_ble_eq_true rfl) (Nat.le_of_ble_eq_true rfl) dX7_findRuns_97 ?_
        obtain ⟨k41, k41e, hf⟩ := zj_sp hf
        have hj42 : ∀ (M40 : zMem), k41 M40 = some w17 → zV κ G 118 [(2, .int x11), (1, .int x2), (0, .ref (G.1 60))] [] M40 F := by
          intro M40 hf
          rw [k41e] at hf
          refine z_iinc (lv' := [(2, .int (x11 + (1 : Int32))), (1, .int x2), (0, .ref (G.1 60))]) (v := x11 + (1 : Int32)) X dX7_findRuns_118 (j := 0) rfl rfl hm (by decide) rfl ?_
          refine z_goto (tgt := 15) X dX7_findRuns_121 (by decide) ?_
          have hq := hi15 _ (Option.some.inj hf).symm
          exact hq
        clear k41e
        refine z_if_eq (tgt := 118) X dX7_findRuns_100 (by decide) (fun h46 => ?_) (fun h46 => ?_)
        · have hf := zt h46 hf
          exact hj42 M22 hf
        · have hf := zf h46 hf
          refine z_aload_n X dX7_findRuns_103 rfl 2 rfl ?_
          refine gf_X7_48 X dX7_findRuns_104 ?_
          refine z_aload_n X dX7_findRuns_107 rfl 2 rfl ?_
          refine gf_X7_173 X dX7_findRuns_108 ?_
          refine z_iconst (v := (1 : Int32)) X dX7_findRuns_111 (by decide) ?_
          refine z_isub X dX7_findRuns_112 ?_
          refine z_dup2 X dX7_findRuns_113 rfl rfl ?_
          obtain ⟨h43, hf⟩ := zc_sp hf
          refine z_iald X zc_72 zl_72 (zin_sp h43) dX7_findRuns_114 ?_
          refine z_iconst (v := (1 : Int32)) X dX7_findRuns_115 (by decide) ?_
          refine z_iadd X dX7_findRuns_116 ?_
          obtain ⟨h44, hf⟩ := zc_sp hf
          refine z_iast X zc_72 zl_72 (zin_sp h44) dX7_findRuns_117 ?_
          refine z_nmM hf (fun M45 hf => ?_)
          exact hj42 M45 hf
      clear k23e
      refine z_if_eq (tgt := 94) X dX7_findRuns_29 (by decide) (fun h37 => ?_) (fun h37 => ?_)
      · have hf := zt h37 hf
        exact hj24 M12 hf
      · have hf := zf h37 hf
        refine z_aload_n X dX7_findRuns_32 rfl 2 rfl ?_
        refine z_iload_n X dX7_findRuns_33 rfl 0 rfl ?_
        refine z_iconst (v := (1 : Int32)) X dX7_findRuns_34 (by decide) ?_
        refine z_isub X dX7_findRuns_35 ?_
        refine z_iload_n X dX7_findRuns_36 rfl 1 rfl ?_
        obtain ⟨r26, h25, hf⟩ := zb1_sp hf
        refine gc_X7_88 (st := []) X (mtX7_isDot κ.2.1 κ.2.2.2.2.2.2.2.2.2.2.1 G  h25) rfl rfl (Nat.le_of_ble_eq_true rfl) (Nat.le_of_ble_eq_true rfl) (Nat.le_of_ble_eq_true rfl) dX7_findRuns_37 ?_
        refine z_if_ne (tgt := 94) X dX7_findRuns_40 (by decide) (fun h36 => ?_) (fun h36 => ?_)
        · have hf := zf h36 hf
          exact hj24 M12 hf
        · have hf := zt h36 hf
          refine z_aload_n X dX7_findRuns_43 rfl 2 rfl ?_
          refine gf_X7_42 X dX7_findRuns_44 ?_
          refine z_aload_n X dX7_findRuns_47 rfl 2 rfl ?_
          refine gf_X7_173 X dX7_findRuns_48 ?_
          refine z_iload_n X dX7_findRuns_51 rfl 1 rfl ?_
          obtain ⟨h27, hf⟩ := zc_sp hf
          refine z_iast X zc_70 zl_70 (zin_sp h27) dX7_findRuns_52 ?_
          refine z_nmM hf (fun M28 hf => ?_)
          refine z_aload_n X dX7_findRuns_53 rfl 2 rfl ?_
          refine gf_X7_45 X dX7_findRuns_54 ?_
          refine z_aload_n X dX7_findRuns_57 rfl 2 rfl ?_
          refine gf_X7_173 X dX7_findRuns_58 ?_
          refine z_iload_n X dX7_findRuns_61 rfl 0 rfl ?_
          obtain ⟨h29, hf⟩ := zc_sp hf
          refine z_iast X zc_71 zl_71 (zin_sp h29) dX7_findRuns_62 ?_
          refine z_nmM hf (fun M30 hf => ?_)
          refine z_aload_n X dX7_findRuns_63 rfl 2 rfl ?_
          refine gf_X7_48 X dX7_findRuns_64 ?_
          refine z_aload_n X dX7_findRuns_67 rfl 2 rfl ?_
          refine gf_X7_173 X dX7_findRuns_68 ?_
          refine z_iconst (v := (0 : Int32)) X dX7_findRuns_71 (by decide) ?_
          obtain ⟨h31, hf⟩ := zc_sp hf
          refine z_iast X zc_72 zl_72 (zin_sp h31) dX7_findRuns_72 ?_
          refine z_nmM hf (fun M32 hf => ?_)
          refine z_aload_n X dX7_findRuns_73 rfl 2 rfl ?_
          refine gf_X7_51 X dX7_findRuns_74 ?_
          refine z_aload_n X dX7_findRuns_77 rfl 2 rfl ?_
          refine gf_X7_173 X dX7_findRuns_78 ?_
          refine z_bipush (v := (-9 : Int32)) X dX7_findRuns_81 (by decide) ?_
          obtain ⟨h33, hf⟩ := zc_sp hf
          refine z_iast X zc_73 zl_73 (zin_sp h33) dX7_findRuns_83 ?_
          refine z_nmM hf (fun M34 hf => ?_)
          refine z_aload_n X dX7_findRuns_84 rfl 2 rfl ?_
          refine z_dup X dX7_findRuns_85 rfl ?_
          refine gf_X7_173 X dX7_findRuns_86 ?_
          refine z_iconst (v := (1 : Int32)) X dX7_findRuns_89 (by decide) ?_
          refine z_iadd X dX7_findRuns_90 ?_
          refine pf_X7_173 X dX7_findRuns_91 ?_
          refine z_nmM hf (fun M35 hf => ?_)
          exact hj24 M35 hf
set_option maxHeartbeats 4000000 in
set_option maxRecDepth 100000 in
theorem mtX7_areTouching (l : Launch) (D : va_G) (G : zG) {p1 : Int32} {p2 : Int32} {M : zMem} {F : Int64} {ro : Int32} (hf : fX7_areTouching p1 p2 M = some ro) : zCM l yX7_areTouching wX7_areTouching { frames := 0, cells := 0, slots := 0, locals := 0 } D G [.ref (G.1 60), .int p1, .int p2] M F (some (.int ro)) M F := by
  refine zCM.ofV (own := RX7) (cc := cX7_areTouching) (maxL := 5) (ret := (some .boolean)) (lv := [(0, .ref (G.1 60)), (1, .int p1), (2, .int p2)]) (by decide) rfl rfl (Nat.le_of_ble_eq_true rfl) rfl (fun κ X Z hm hκ1 hκ2 => ?_)
  subst hκ1 hκ2
  unfold fX7_areTouching at hf
  refine z_aload_n X dX7_areTouching_0 rfl 0 rfl ?_
  refine gf_X7_42 X dX7_areTouching_1 ?_
  refine z_iload_n X dX7_areTouching_4 rfl 1 rfl ?_
  obtain ⟨h1, hf⟩ := zc_sp hf
  refine z_iald X zc_70 zl_70 (zin_sp h1) dX7_areTouching_5 ?_
  refine z_aload_n X dX7_areTouching_6 rfl 0 rfl ?_
  refine gf_X7_42 X dX7_areTouching_7 ?_
  refine z_iload_n X dX7_areTouching_10 rfl 2 rfl ?_
  obtain ⟨h2, hf⟩ := zc_sp hf
  refine z_iald X zc_70 zl_70 (zin_sp h2) dX7_areTouching_11 ?_
  refine z_isub X dX7_areTouching_12 ?_
  refine z_nmI hf (fun x3 hf => ?_)
  refine z_istore_n (lv' := [(3, .int x3), (0, .ref (G.1 60)), (1, .int p1), (2, .int p2)]) X dX7_areTouching_13 rfl hm (by decide) rfl ?_
  refine z_iload_n X dX7_areTouching_14 rfl 0 rfl ?_
  refine z_iconst (v := (1 : Int32)) X dX7_areTouching_15 (by decide) ?_
  have hj : zV κ G 29 [(3, .int x3), (0, .ref (G.1 60)), (1, .int p1), (2, .int p2)] [.int (if x3 = (1 : Int32) then (1 : Int32) else (if x3 = (-1 : Int32) then (1 : Int32) else (0 : Int32)))] M F := by
    refine z_nmI hf (fun x6 hf => ?_)
    refine z_istore (lv' := [(4, .int x6), (3, .int x3), (0, .ref (G.1 60)), (1, .int p1), (2, .int p2)]) X dX7_areTouching_29 hm (by decide) rfl ?_
    refine z_iload X dX7_areTouching_31 0 rfl ?_
    obtain ⟨k8, k8e, hf⟩ := zj_sp hf
    have hj9 : ∀ (x7 : Int32), k8 x7 = some ro → zV κ G 85 [(4, .int x6), (3, .int x3), (0, .ref (G.1 60)), (1, .int p1), (2, .int p2)] [.int x7] M F := by
      intro x7 hf
      rw [k8e] at hf
      obtain ⟨h19, hf⟩ := zc_sp hf
      exact z_zret X (z01_sp h19) (zR_i hf Z) dX7_areTouching_85
    clear k8e
    refine z_if_eq (tgt := 84) X dX7_areTouching_33 (by decide) (fun h18 => ?_) (fun h18 => ?_)
    · have hf := zt h18 hf
      refine z_iconst (v := (0 : Int32)) X dX7_areTouching_84 (by decide) ?_
      exact hj9 (0 : Int32) hf
    · have hf := zf h18 hf
      refine z_aload_n X dX7_areTouching_36 rfl 2 rfl ?_
      refine gf_X7_45 X dX7_areTouching_37 ?_
      refine z_iload_n X dX7_areTouching_40 rfl 3 rfl ?_
      obtain ⟨h10, hf⟩ := zc_sp hf
      refine z_iald X zc_71 zl_71 (zin_sp h10) dX7_areTouching_41 ?_
      refine z_aload_n X dX7_areTouching_42 rfl 2 rfl ?_
      refine gf_X7_45 X dX7_areTouching_43 ?_
      refine z_iload_n X dX7_areTouching_46 rfl 4 rfl ?_
      obtain ⟨h11, hf⟩ := zc_sp hf
      refine z_iald X zc_71 zl_71 (zin_sp h11) dX7_areTouching_47 ?_
      refine z_aload_n X dX7_areTouching_48 rfl 2 rfl ?_
      refine gf_X7_48 X dX7_areTouching_49 ?_
      refine z_iload_n X dX7_areTouching_52 rfl 4 rfl ?_
      obtain ⟨h12, hf⟩ := zc_sp hf
      refine z_iald X zc_72 zl_72 (zin_sp h12) dX7_areTouching_53 ?_
      refine z_iadd X dX7_areTouching_54 ?_
      refine z_icmp_gt (tgt := 84) X dX7_areTouching_55 (by decide) (fun h17 => ?_) (fun h17 => ?_)
      · have hf := zt h17 hf
        refine z_iconst (v := (0 : Int32)) X dX7_areTouching_84 (by decide) ?_
        exact hj9 (0 : Int32) hf
      · have hf := zf h17 hf
        refine z_aload_n X dX7_areTouching_58 rfl 2 rfl ?_
        refine gf_X7_45 X dX7_areTouching_59 ?_
        refine z_iload_n X dX7_areTouching_62 rfl 4 rfl ?_
        obtain ⟨h13, hf⟩ := zc_sp hf
        refine z_iald X zc_71 zl_71 (zin_sp h13) dX7_areTouching_63 ?_
        refine z_aload_n X dX7_areTouching_64 rfl 2 rfl ?_
        refine gf_X7_45 X dX7_areTouching_65 ?_
        refine z_iload_n X dX7_areTouching_68 rfl 3 rfl ?_
        obtain ⟨h14, hf⟩ := zc_sp hf
        refine z_iald X zc_71 zl_71 (zin_sp h14) dX7_areTouching_69 ?_
        refine z_aload_n X dX7_areTouching_70 rfl 2 rfl ?_
        refine gf_X7_48 X dX7_areTouching_71 ?_
        refine z_iload_n X dX7_areTouching_74 rfl 3 rfl ?_
        obtain ⟨h15, hf⟩ := zc_sp hf
        refine z_iald X zc_72 zl_72 (zin_sp h15) dX7_areTouching_75 ?_
        refine z_iadd X dX7_areTouching_76 ?_
        refine z_icmp_gt (tgt := 84) X dX7_areTouching_77 (by decide) (fun h16 => ?_) (fun h16 => ?_)
        · have hf := zt h16 hf
          refine z_iconst (v := (0 : Int32)) X dX7_areTouching_84 (by decide) ?_
          exact hj9 (0 : Int32) hf
        · have hf := zf h16 hf
          refine z_iconst (v := (1 : Int32)) X dX7_areTouching_80 (by decide) ?_
          refine z_goto (tgt := 85) X dX7_areTouching_81 (by decide) ?_
          exact hj9 (1 : Int32) hf
  refine z_icmp_eq (tgt := 24) X dX7_areTouching_16 (by decide) (fun h4 => ?_) (fun h4 => ?_)
  · try simp only [if_pos h4] at hj
    refine z_iconst (v := (1 : Int32)) X dX7_areTouching_24 (by decide) ?_
    refine z_goto (tgt := 29) X dX7_areTouching_25 (by decide) ?_
    exact hj
  · try simp only [if_neg h4] at hj
    refine z_iload_n X dX7_areTouching_19 rfl 0 rfl ?_
    refine z_iconst (v := (-1 : Int32)) X dX7_areTouching_20 (by decide) ?_
    refine z_icmp_ne (tgt := 28) X dX7_areTouching_21 (by decide) (fun h5 => ?_) (fun h5 => ?_)
    · try simp only [if_neg h5] at hj
      refine z_iconst (v := (0 : Int32)) X dX7_areTouching_28 (by decide) ?_
      exact hj
    · try simp only [if_pos h5] at hj
      refine z_iconst (v := (1 : Int32)) X dX7_areTouching_24 (by decide) ?_
      refine z_goto (tgt := 29) X dX7_areTouching_25 (by decide) ?_
      exact hj
set_option maxHeartbeats 4000000 in
set_option maxRecDepth 100000 in
theorem mtX7_spreads (l : Launch) (D : va_G) (G : zG) {p1 : Int32} {M : zMem} {F : Int64} {Mo : zMem} (hf : fX7_spreads p1 M = some Mo) : zCM l yX7_spreads wX7_spreads { frames := 1, cells := 0, slots := 0, locals := 24 } D G [.ref (G.1 60), .int p1] M F none Mo F := by
  refine zCM.ofV (own := RX7) (cc := cX7_spreads) (maxL := 5) (ret := none) (lv := [(0, .ref (G.1 60)), (1, .int p1)]) (by decide) rfl rfl (Nat.le_of_ble_eq_true rfl) rfl (fun κ X Z hm hκ1 hκ2 => ?_)
  subst hκ1 hκ2
  unfold fX7_spreads at hf
  refine z_iconst (v := (1 : Int32)) X dX7_spreads_0 (by decide) ?_
  refine z_istore_n (lv' := [(2, .int (1 : Int32)), (0, .ref (G.1 60)), (1, .int p1)]) X dX7_spreads_1 rfl hm (by decide) rfl ?_
  obtain ⟨b8, hb9, hf⟩ := zb1_sp hf
  have hX3 : ∀ t, t = b8 → zu2 (fun (x54 : Int32) (M55 : zMem) => zV κ G 86 [(2, .int x54), (0, .ref (G.1 60)), (1, .int p1)] [] M55 F) t := by
    intro t ht
    subst ht
    obtain ⟨x54, M55⟩ := t
    show zV κ G 86 [(2, .int x54), (0, .ref (G.1 60)), (1, .int p1)] [] M55 F
    exact z_vret X (zR_M hf Z) dX7_spreads_86
  refine zlp_walk (P := zu2 (fun (x1 : Int32) (M2 : zMem) => zV κ G 2 [(2, .int x1), (0, .ref (G.1 60)), (1, .int p1)] [] M2 F)) (fun a56 w7 hf hi5 hx6 => ?_) _ _ hb9
  obtain ⟨x1, M2⟩ := a56
  show zV κ G 2 [(2, .int x1), (0, .ref (G.1 60)), (1, .int p1)] [] M2 F
  replace hf : fX7_spreads_L2 p1 x1 M2 = some w7 := hf
  unfold fX7_spreads_L2 at hf
  refine z_iload_n X dX7_spreads_2 rfl 0 rfl ?_
  refine z_if_eq (tgt := 86) X dX7_spreads_3 (by decide) (fun h53 => ?_) (fun h53 => ?_)
  · have hf := zt h53 hf
    have hq := hX3 _ (hx6 _ (Option.some.inj hf).symm)
    exact hq
  · have hf := zf h53 hf
    refine z_iconst (v := (0 : Int32)) X dX7_spreads_6 (by decide) ?_
    refine z_istore_n (lv' := [(2, .int (0 : Int32)), (0, .ref (G.1 60)), (1, .int p1)]) X dX7_spreads_7 rfl hm (by decide) rfl ?_
    refine z_iconst (v := (0 : Int32)) X dX7_spreads_8 (by decide) ?_
    refine z_istore_n (lv' := [(3, .int (0 : Int32)), (2, .int (0 : Int32)), (0, .ref (G.1 60)), (1, .int p1)]) X dX7_spreads_9 rfl hm (by decide) rfl ?_
    obtain ⟨b18, hb19, hf⟩ := zb1_sp hf
    have hX13 : ∀ t, t = b18 → zu3 (fun (x49 : Int32) (x50 : Int32) (M51 : zMem) => zV κ G 83 [(3, .int x49), (2, .int x50), (0, .ref (G.1 60)), (1, .int p1)] [] M51 F) t := by
      intro t ht
      subst ht
      obtain ⟨x49, x50, M51⟩ := t
      show zV κ G 83 [(3, .int x49), (2, .int x50), (0, .ref (G.1 60)), (1, .int p1)] [] M51 F
      refine z_goto (tgt := 2) X dX7_spreads_83 (by decide) ?_
      refine z_sub [1, 2, 3] rfl ?_
      have hq := hi5 _ (Option.some.inj hf).symm
      exact hq
    refine zlp_walk (P := zu3 (fun (x10 : Int32) (x11 : Int32) (M12 : zMem) => zV κ G 10 [(3, .int x10), (2, .int x11), (0, .ref (G.1 60)), (1, .int p1)] [] M12 F)) (fun a52 w17 hf hi15 hx16 => ?_) _ _ hb19
    obtain ⟨x10, x11, M12⟩ := a52
    show zV κ G 10 [(3, .int x10), (2, .int x11), (0, .ref (G.1 60)), (1, .int p1)] [] M12 F
    replace hf : fX7_spreads_L10 p1 x10 x11 M12 = some w17 := hf
    unfold fX7_spreads_L10 at hf
    refine z_iload_n X dX7_spreads_10 rfl 0 rfl ?_
    refine z_aload_n X dX7_spreads_11 rfl 2 rfl ?_
    refine gf_X7_173 X dX7_spreads_12 ?_
    refine z_icmp_ge (tgt := 83) X dX7_spreads_15 (by decide) (fun h48 => ?_) (fun h48 => ?_)
    · have hf := zt h48 hf
      have hq := hX13 _ (hx16 _ (Option.some.inj hf).symm)
      exact hq
    · have hf := zf h48 hf
      refine z_iconst (v := (0 : Int32)) X dX7_spreads_18 (by decide) ?_
      refine z_istore (lv' := [(4, .int (0 : Int32)), (3, .int x10), (2, .int x11), (0, .ref (G.1 60)), (1, .int p1)]) X dX7_spreads_19 hm (by decide) rfl ?_
      obtain ⟨b28, hb29, hf⟩ := zb1_sp hf
      have hX23 : ∀ t, t = b28 → zu3 (fun (x44 : Int32) (x45 : Int32) (M46 : zMem) => zV κ G 77 [(4, .int x44), (3, .int x10), (2, .int x45), (0, .ref (G.1 60)), (1, .int p1)] [] M46 F) t := by
        intro t ht
        subst ht
        obtain ⟨x44, x45, M46⟩ := t
        show zV κ G 77 [(4, .int x44), (3, .int x10), (2, .int x45), (0, .ref (G.1 60)), (1, .int p1)] [] M46 F
        refine z_iinc (lv' := [(3, .int (x10 + (1 : Int32))), (4, .int x44), (2, .int x45), (0, .ref (G.1 60)), (1, .int p1)]) (v := x10 + (1 : Int32)) X dX7_spreads_77 (j := 1) rfl rfl hm (by decide) rfl ?_
        refine z_goto (tgt := 10) X dX7_spreads_80 (by decide) ?_
        refine z_sub [0, 2, 3, 4] rfl ?_
        have hq := hi15 _ (Option.some.inj hf).symm
        exact hq
      refine zlp_walk (P := zu3 (fun (x20 : Int32) (x21 : Int32) (M22 : zMem) => zV κ G 21 [(4, .int x20), (3, .int x10), (2, .int x21), (0, .ref (G.1 60)), (1, .int p1)] [] M22 F)) (fun a47 w27 hf hi25 hx26 => ?_) _ _ hb29
      obtain ⟨x20, x21, M22⟩ := a47
      show zV κ G 21 [(4, .int x20), (3, .int x10), (2, .int x21), (0, .ref (G.1 60)), (1, .int p1)] [] M22 F
      replace hf : fX7_spreads_L21 p1 x10 x20 x21 M22 = some w27 := hf
      unfold fX7_spreads_L21 at hf
      refine z_iload X dX7_spreads_21 0 rfl ?_
      refine z_aload_n X dX7_spreads_23 rfl 3 rfl ?_
      refine gf_X7_173 X dX7_spreads_24 ?_
      refine z_icmp_ge (tgt := 77) X dX7_spreads_27 (by decide) (fun h43 => ?_) (fun h43 => ?_)
      · have hf := zt h43 hf
        have hq := hX23 _ (hx26 _ (Option.some.inj hf).symm)
        exact hq
      · have hf := zf h43 hf
        refine z_aload_n X dX7_spreads_30 rfl 3 rfl ?_
        refine gf_X7_51 X dX7_spreads_31 ?_
        refine z_iload_n X dX7_spreads_34 rfl 1 rfl ?_
        obtain ⟨h30, hf⟩ := zc_sp hf
        refine z_iald X zc_73 zl_73 (zin_sp h30) dX7_spreads_35 ?_
        refine z_bipush (v := (-9 : Int32)) X dX7_spreads_36 (by decide) ?_
        refine z_icmp_ne (tgt := 77) X dX7_spreads_38 (by decide) (fun h42 => ?_) (fun h42 => ?_)
        · have hf := zf h42 hf
          have hq := hX23 _ (hx26 _ (Option.some.inj hf).symm)
          exact hq
        · have hf := zt h42 hf
          refine z_aload_n X dX7_spreads_41 rfl 3 rfl ?_
          refine gf_X7_51 X dX7_spreads_42 ?_
          refine z_iload X dX7_spreads_45 0 rfl ?_
          obtain ⟨h31, hf⟩ := zc_sp hf
          refine z_iald X zc_73 zl_73 (zin_sp h31) dX7_spreads_47 ?_
          refine z_iload_n X dX7_spreads_48 rfl 4 rfl ?_
          obtain ⟨k34, k34e, hf⟩ := zj_sp hf
          have hj35 : ∀ (x32 : Int32) (M33 : zMem), k34 x32 M33 = some w27 → zV κ G 71 [(4, .int x20), (3, .int x10), (2, .int x32), (0, .ref (G.1 60)), (1, .int p1)] [] M33 F := by
            intro x32 M33 hf
            rw [k34e] at hf
            refine z_iinc (lv' := [(4, .int (x20 + (1 : Int32))), (3, .int x10), (2, .int x32), (0, .ref (G.1 60)), (1, .int p1)]) (v := x20 + (1 : Int32)) X dX7_spreads_71 (j := 0) rfl rfl hm (by decide) rfl ?_
            refine z_goto (tgt := 21) X dX7_spreads_74 (by decide) ?_
            have hq := hi25 _ (Option.some.inj hf).symm
            exact hq
          clear k34e
          refine z_icmp_ne (tgt := 71) X dX7_spreads_49 (by decide) (fun h41 => ?_) (fun h41 => ?_)
          · have hf := zf h41 hf
            exact hj35 x21 M22 hf
          · have hf := zt h41 hf
            refine z_aload_n X dX7_spreads_52 rfl 3 rfl ?_
            refine z_iload_n X dX7_spreads_53 rfl 1 rfl ?_
            refine z_iload X dX7_spreads_54 0 rfl ?_
            obtain ⟨r37, h36, hf⟩ := zb1_sp hf
            refine gc_X7_176 (st := []) X (mtX7_areTouching κ.2.1 κ.2.2.2.2.2.2.2.2.2.2.1 G  h36) rfl rfl (Nat.le_of_ble_eq_true rfl) (Nat.le_of_ble_eq_true rfl) (Nat.le_of_ble_eq_true rfl) dX7_spreads_56 ?_
            refine z_if_eq (tgt := 71) X dX7_spreads_59 (by decide) (fun h40 => ?_) (fun h40 => ?_)
            · have hf := zt h40 hf
              exact hj35 x21 M22 hf
            · have hf := zf h40 hf
              refine z_aload_n X dX7_spreads_62 rfl 3 rfl ?_
              refine gf_X7_51 X dX7_spreads_63 ?_
              refine z_iload_n X dX7_spreads_66 rfl 1 rfl ?_
              refine z_iload_n X dX7_spreads_67 rfl 4 rfl ?_
              obtain ⟨h38, hf⟩ := zc_sp hf
              refine z_iast X zc_73 zl_73 (zin_sp h38) dX7_spreads_68 ?_
              refine z_nmM hf (fun M39 hf => ?_)
              refine z_iconst (v := (1 : Int32)) X dX7_spreads_69 (by decide) ?_
              refine z_istore_n (lv' := [(2, .int (1 : Int32)), (4, .int x20), (3, .int x10), (0, .ref (G.1 60)), (1, .int p1)]) X dX7_spreads_70 rfl hm (by decide) rfl ?_
              refine z_sub [1, 2, 0, 3, 4] rfl ?_
              exact hj35 (1 : Int32) M39 hf
set_option maxHeartbeats 4000000 in
set_option maxRecDepth 100000 in
theorem mtX7_findStrokes (l : Launch) (D : va_G) (G : zG) {M : zMem} {F : Int64} {Mo : zMem} (hf : fX7_findStrokes M = some Mo) : zCM l yX7_findStrokes wX7_findStrokes { frames := 4, cells := 0, slots := 0, locals := 87 } D G [.ref (G.1 60)] M F none Mo F := by
  refine zCM.ofV (own := RX7) (cc := cX7_findStrokes) (maxL := 2) (ret := none) (lv := [(0, .ref (G.1 60))]) (by decide) rfl rfl (Nat.le_of_ble_eq_true rfl) rfl (fun κ X Z hm hκ1 hκ2 => ?_)
  subst hκ1 hκ2
  unfold fX7_findStrokes at hf
  refine z_aload_n X dX7_findStrokes_0 rfl 0 rfl ?_
  obtain ⟨M2, h1, hf⟩ := zb1_sp hf
  refine gc_X7_179 (st := []) X (mtX7_findRuns κ.2.1 κ.2.2.2.2.2.2.2.2.2.2.1 G  h1) rfl rfl (Nat.le_of_ble_eq_true rfl) (Nat.le_of_ble_eq_true rfl) (Nat.le_of_ble_eq_true rfl) dX7_findStrokes_1 ?_
  refine z_aload_n X dX7_findStrokes_4 rfl 0 rfl ?_
  refine z_iconst (v := (0 : Int32)) X dX7_findStrokes_5 (by decide) ?_
  refine pf_X7_182 X dX7_findStrokes_6 ?_
  refine z_nmM hf (fun M3 hf => ?_)
  refine z_iconst (v := (0 : Int32)) X dX7_findStrokes_9 (by decide) ?_
  refine z_istore_n (lv' := [(1, .int (0 : Int32)), (0, .ref (G.1 60))]) X dX7_findStrokes_10 rfl hm (by decide) rfl ?_
  obtain ⟨b11, hb12, hf⟩ := zb1_sp hf
  have hX6 : ∀ t, t = b11 → zu2 (fun (x24 : Int32) (M25 : zMem) => zV κ G 64 [(1, .int x24), (0, .ref (G.1 60))] [] M25 F) t := by
    intro t ht
    subst ht
    obtain ⟨x24, M25⟩ := t
    show zV κ G 64 [(1, .int x24), (0, .ref (G.1 60))] [] M25 F
    exact z_vret X (zR_M hf Z) dX7_findStrokes_64
  refine zlp_walk (P := zu2 (fun (x4 : Int32) (M5 : zMem) => zV κ G 11 [(1, .int x4), (0, .ref (G.1 60))] [] M5 F)) (fun a26 w10 hf hi8 hx9 => ?_) _ _ hb12
  obtain ⟨x4, M5⟩ := a26
  show zV κ G 11 [(1, .int x4), (0, .ref (G.1 60))] [] M5 F
  replace hf : fX7_findStrokes_L11 x4 M5 = some w10 := hf
  unfold fX7_findStrokes_L11 at hf
  refine z_iload_n X dX7_findStrokes_11 rfl 0 rfl ?_
  refine z_aload_n X dX7_findStrokes_12 rfl 1 rfl ?_
  refine gf_X7_173 X dX7_findStrokes_13 ?_
  refine z_icmp_ge (tgt := 64) X dX7_findStrokes_16 (by decide) (fun h23 => ?_) (fun h23 => ?_)
  · have hf := zt h23 hf
    have hq := hX6 _ (hx9 _ (Option.some.inj hf).symm)
    exact hq
  · have hf := zf h23 hf
    refine z_aload_n X dX7_findStrokes_19 rfl 1 rfl ?_
    refine gf_X7_51 X dX7_findStrokes_20 ?_
    refine z_iload_n X dX7_findStrokes_23 rfl 0 rfl ?_
    obtain ⟨h13, hf⟩ := zc_sp hf
    refine z_iald X zc_73 zl_73 (zin_sp h13) dX7_findStrokes_24 ?_
    refine z_bipush (v := (-9 : Int32)) X dX7_findStrokes_25 (by decide) ?_
    obtain ⟨k15, k15e, hf⟩ := zj_sp hf
    have hj16 : ∀ (M14 : zMem), k15 M14 = some w10 → zV κ G 58 [(1, .int x4), (0, .ref (G.1 60))] [] M14 F := by
      intro M14 hf
      rw [k15e] at hf
      refine z_iinc (lv' := [(1, .int (x4 + (1 : Int32))), (0, .ref (G.1 60))]) (v := x4 + (1 : Int32)) X dX7_findStrokes_58 (j := 0) rfl rfl hm (by decide) rfl ?_
      refine z_goto (tgt := 11) X dX7_findStrokes_61 (by decide) ?_
      have hq := hi8 _ (Option.some.inj hf).symm
      exact hq
    clear k15e
    refine z_icmp_ne (tgt := 58) X dX7_findStrokes_27 (by decide) (fun h22 => ?_) (fun h22 => ?_)
    · have hf := zf h22 hf
      exact hj16 M5 hf
    · have hf := zt h22 hf
      refine z_aload_n X dX7_findStrokes_30 rfl 1 rfl ?_
      refine gf_X7_51 X dX7_findStrokes_31 ?_
      refine z_iload_n X dX7_findStrokes_34 rfl 0 rfl ?_
      refine z_aload_n X dX7_findStrokes_35 rfl 1 rfl ?_
      refine gf_X7_182 X dX7_findStrokes_36 ?_
      obtain ⟨h17, hf⟩ := zc_sp hf
      refine z_iast X zc_73 zl_73 (zin_sp h17) dX7_findStrokes_39 ?_
      refine z_nmM hf (fun M18 hf => ?_)
      refine z_aload_n X dX7_findStrokes_40 rfl 1 rfl ?_
      refine z_aload_n X dX7_findStrokes_41 rfl 1 rfl ?_
      refine gf_X7_182 X dX7_findStrokes_42 ?_
      obtain ⟨M20, h19, hf⟩ := zb1_sp hf
      refine gc_X7_185 (st := []) X (mtX7_spreads κ.2.1 κ.2.2.2.2.2.2.2.2.2.2.1 G  h19) rfl rfl (Nat.le_of_ble_eq_true rfl) (Nat.le_of_ble_eq_true rfl) (Nat.le_of_ble_eq_true rfl) dX7_findStrokes_45 ?_
      refine z_aload_n X dX7_findStrokes_48 rfl 1 rfl ?_
      refine z_dup X dX7_findStrokes_49 rfl ?_
      refine gf_X7_182 X dX7_findStrokes_50 ?_
      refine z_iconst (v := (1 : Int32)) X dX7_findStrokes_53 (by decide) ?_
      refine z_iadd X dX7_findStrokes_54 ?_
      refine pf_X7_182 X dX7_findStrokes_55 ?_
      refine z_nmM hf (fun M21 hf => ?_)
      exact hj16 M21 hf
set_option maxHeartbeats 4000000 in
set_option maxRecDepth 100000 in
theorem mtX7_run (l : Launch) (D : va_G) (G : zG) {p1 : Int32} {p2 : Int32} {M : zMem} {F : Int64} {ro : Int32} {Mo : zMem} (hf : fX7_run p1 p2 M = some (ro, Mo)) : zCM l yX7_run wX7_run { frames := 5, cells := 0, slots := 0, locals := 108 } D G [.ref (G.1 60), .int p1, .int p2] M F (some (.int ro)) Mo F := by
  refine zCM.ofV (own := RX7) (cc := cX7_run) (maxL := 3) (ret := (some .int)) (lv := [(0, .ref (G.1 60)), (1, .int p1), (2, .int p2)]) (by decide) rfl rfl (Nat.le_of_ble_eq_true rfl) rfl (fun κ X Z hm hκ1 hκ2 => ?_)
  subst hκ1 hκ2
  unfold fX7_run at hf
  refine z_aload_n X dX7_run_0 rfl 0 rfl ?_
  obtain ⟨M2, h1, hf⟩ := zb1_sp hf
  refine gc_X7_188 (st := []) X (mtX7_findStrokes κ.2.1 κ.2.2.2.2.2.2.2.2.2.2.1 G  h1) rfl rfl (Nat.le_of_ble_eq_true rfl) (Nat.le_of_ble_eq_true rfl) (Nat.le_of_ble_eq_true rfl) dX7_run_1 ?_
  refine z_iload_n X dX7_run_4 rfl 1 rfl ?_
  refine z_iconst (v := (0 : Int32)) X dX7_run_5 (by decide) ?_
  refine z_aload_n X dX7_run_6 rfl 0 rfl ?_
  refine gf_X7_173 X dX7_run_7 ?_
  refine z_iconst (v := (1 : Int32)) X dX7_run_10 (by decide) ?_
  refine z_isub X dX7_run_11 ?_
  obtain ⟨r4, h3, hf⟩ := zb1_sp hf
  refine gc_X7_66 (st := []) X (mtX7_within κ.2.1 κ.2.2.2.2.2.2.2.2.2.2.1 G  h3) rfl rfl (Nat.le_of_ble_eq_true rfl) (Nat.le_of_ble_eq_true rfl) (Nat.le_of_ble_eq_true rfl) dX7_run_12 ?_
  refine z_if_ne (tgt := 20) X dX7_run_15 (by decide) (fun h13 => ?_) (fun h13 => ?_)
  · have hf := zf h13 hf
    refine z_iload_n X dX7_run_20 rfl 2 rfl ?_
    by_cases h5 : p2 = (0 : Int32)
    · have hf := zt h5 hf
      refine z_tableIn (tgt := 52) X dX7_run_21 (by rw [h5]; decide) (by rw [h5]; decide) (by rw [h5]; rfl) (by decide) ?_
      refine z_aload_n X dX7_run_52 rfl 0 rfl ?_
      refine gf_X7_42 X dX7_run_53 ?_
      refine z_iload_n X dX7_run_56 rfl 1 rfl ?_
      obtain ⟨h6, hf⟩ := zc_sp hf
      refine z_iald X zc_70 zl_70 (zin_sp h6) dX7_run_57 ?_
      exact z_iret X (zR_iM hf Z) dX7_run_58
    · have hf := zf h5 hf
      by_cases h7 : p2 = (1 : Int32)
      · have hf := zt h7 hf
        refine z_tableIn (tgt := 59) X dX7_run_21 (by rw [h7]; decide) (by rw [h7]; decide) (by rw [h7]; rfl) (by decide) ?_
        refine z_aload_n X dX7_run_59 rfl 0 rfl ?_
        refine gf_X7_45 X dX7_run_60 ?_
        refine z_iload_n X dX7_run_63 rfl 1 rfl ?_
        obtain ⟨h8, hf⟩ := zc_sp hf
        refine z_iald X zc_71 zl_71 (zin_sp h8) dX7_run_64 ?_
        exact z_iret X (zR_iM hf Z) dX7_run_65
      · have hf := zf h7 hf
        by_cases h9 : p2 = (2 : Int32)
        · have hf := zt h9 hf
          refine z_tableIn (tgt := 66) X dX7_run_21 (by rw [h9]; decide) (by rw [h9]; decide) (by rw [h9]; rfl) (by decide) ?_
          refine z_aload_n X dX7_run_66 rfl 0 rfl ?_
          refine gf_X7_48 X dX7_run_67 ?_
          refine z_iload_n X dX7_run_70 rfl 1 rfl ?_
          obtain ⟨h10, hf⟩ := zc_sp hf
          refine z_iald X zc_72 zl_72 (zin_sp h10) dX7_run_71 ?_
          exact z_iret X (zR_iM hf Z) dX7_run_72
        · have hf := zf h9 hf
          by_cases h11 : p2 = (3 : Int32)
          · have hf := zt h11 hf
            refine z_tableIn (tgt := 73) X dX7_run_21 (by rw [h11]; decide) (by rw [h11]; decide) (by rw [h11]; rfl) (by decide) ?_
            refine z_aload_n X dX7_run_73 rfl 0 rfl ?_
            refine gf_X7_51 X dX7_run_74 ?_
            refine z_iload_n X dX7_run_77 rfl 1 rfl ?_
            obtain ⟨h12, hf⟩ := zc_sp hf
            refine z_iald X zc_73 zl_73 (zin_sp h12) dX7_run_78 ?_
            exact z_iret X (zR_iM hf Z) dX7_run_79
          · have hf := zf h11 hf
            refine z_tableOut (tgt := 80) X dX7_run_21 (by have q0 := lv_neT h5 (a := 0) rfl; have q1 := lv_neT h7 (a := 1) rfl; have q2 := lv_neT h9 (a := 2) rfl; have q3 := lv_neT h11 (a := 3) rfl; omega) (by decide) ?_
            refine z_bipush (v := (-2 : Int32)) X dX7_run_80 (by decide) ?_
            exact z_iret X (zR_iM hf Z) dX7_run_82
  · have hf := zt h13 hf
    refine z_iconst (v := (-1 : Int32)) X dX7_run_18 (by decide) ?_
    exact z_iret X (zR_iM hf Z) dX7_run_19
set_option maxHeartbeats 4000000 in
set_option maxRecDepth 100000 in
theorem mtX7_stroke (l : Launch) (D : va_G) (G : zG) {p1 : Int32} {p2 : Int32} {M : zMem} {F : Int64} {ro : Int32} {Mo : zMem} (hf : fX7_stroke p1 p2 M = some (ro, Mo)) : zCM l yX7_stroke wX7_stroke { frames := 5, cells := 0, slots := 0, locals := 108 } D G [.ref (G.1 60), .int p1, .int p2] M F (some (.int ro)) Mo F := by
  refine zCM.ofV (own := RX7) (cc := cX7_stroke) (maxL := 11) (ret := (some .int)) (lv := [(0, .ref (G.1 60)), (1, .int p1), (2, .int p2)]) (by decide) rfl rfl (Nat.le_of_ble_eq_true rfl) rfl (fun κ X Z hm hκ1 hκ2 => ?_)
  subst hκ1 hκ2
  unfold fX7_stroke at hf
  refine z_aload_n X dX7_stroke_0 rfl 0 rfl ?_
  obtain ⟨M2, h1, hf⟩ := zb1_sp hf
  refine gc_X7_188 (st := []) X (mtX7_findStrokes κ.2.1 κ.2.2.2.2.2.2.2.2.2.2.1 G  h1) rfl rfl (Nat.le_of_ble_eq_true rfl) (Nat.le_of_ble_eq_true rfl) (Nat.le_of_ble_eq_true rfl) dX7_stroke_1 ?_
  refine z_iload_n X dX7_stroke_4 rfl 1 rfl ?_
  refine z_iconst (v := (0 : Int32)) X dX7_stroke_5 (by decide) ?_
  refine z_aload_n X dX7_stroke_6 rfl 0 rfl ?_
  refine gf_X7_182 X dX7_stroke_7 ?_
  refine z_iconst (v := (1 : Int32)) X dX7_stroke_10 (by decide) ?_
  refine z_isub X dX7_stroke_11 ?_
  obtain ⟨r4, h3, hf⟩ := zb1_sp hf
  refine gc_X7_66 (st := []) X (mtX7_within κ.2.1 κ.2.2.2.2.2.2.2.2.2.2.1 G  h3) rfl rfl (Nat.le_of_ble_eq_true rfl) (Nat.le_of_ble_eq_true rfl) (Nat.le_of_ble_eq_true rfl) dX7_stroke_12 ?_
  refine z_if_ne (tgt := 20) X dX7_stroke_15 (by decide) (fun h71 => ?_) (fun h71 => ?_)
  · have hf := zf h71 hf
    refine z_iload_n X dX7_stroke_20 rfl 2 rfl ?_
    refine z_iconst (v := (0 : Int32)) X dX7_stroke_21 (by decide) ?_
    refine z_iconst (v := (5 : Int32)) X dX7_stroke_22 (by decide) ?_
    obtain ⟨r6, h5, hf⟩ := zb1_sp hf
    refine gc_X7_66 (st := []) X (mtX7_within κ.2.1 κ.2.2.2.2.2.2.2.2.2.2.1 G  h5) rfl rfl (Nat.le_of_ble_eq_true rfl) (Nat.le_of_ble_eq_true rfl) (Nat.le_of_ble_eq_true rfl) dX7_stroke_23 ?_
    refine z_if_ne (tgt := 32) X dX7_stroke_26 (by decide) (fun h70 => ?_) (fun h70 => ?_)
    · have hf := zf h70 hf
      refine z_iconst (v := (0 : Int32)) X dX7_stroke_32 (by decide) ?_
      refine z_istore_n (lv' := [(3, .int (0 : Int32)), (0, .ref (G.1 60)), (1, .int p1), (2, .int p2)]) X dX7_stroke_33 rfl hm (by decide) rfl ?_
      refine z_iconst (v := (0 : Int32)) X dX7_stroke_34 (by decide) ?_
      refine z_istore (lv' := [(4, .int (0 : Int32)), (3, .int (0 : Int32)), (0, .ref (G.1 60)), (1, .int p1), (2, .int p2)]) X dX7_stroke_35 hm (by decide) rfl ?_
      refine z_bipush (v := (32 : Int32)) X dX7_stroke_37 (by decide) ?_
      refine z_istore (lv' := [(5, .int (32 : Int32)), (4, .int (0 : Int32)), (3, .int (0 : Int32)), (0, .ref (G.1 60)), (1, .int p1), (2, .int p2)]) X dX7_stroke_39 hm (by decide) rfl ?_
      refine z_iconst (v := (-1 : Int32)) X dX7_stroke_41 (by decide) ?_
      refine z_istore (lv' := [(6, .int (-1 : Int32)), (5, .int (32 : Int32)), (4, .int (0 : Int32)), (3, .int (0 : Int32)), (0, .ref (G.1 60)), (1, .int p1), (2, .int p2)]) X dX7_stroke_42 hm (by decide) rfl ?_
      refine z_bipush (v := (24 : Int32)) X dX7_stroke_44 (by decide) ?_
      refine z_istore (lv' := [(7, .int (24 : Int32)), (6, .int (-1 : Int32)), (5, .int (32 : Int32)), (4, .int (0 : Int32)), (3, .int (0 : Int32)), (0, .ref (G.1 60)), (1, .int p1), (2, .int p2)]) X dX7_stroke_46 hm (by decide) rfl ?_
      refine z_iconst (v := (-1 : Int32)) X dX7_stroke_48 (by decide) ?_
      refine z_istore (lv' := [(8, .int (-1 : Int32)), (7, .int (24 : Int32)), (6, .int (-1 : Int32)), (5, .int (32 : Int32)), (4, .int (0 : Int32)), (3, .int (0 : Int32)), (0, .ref (G.1 60)), (1, .int p1), (2, .int p2)]) X dX7_stroke_49 hm (by decide) rfl ?_
      refine z_iconst (v := (0 : Int32)) X dX7_stroke_51 (by decide) ?_
      refine z_istore (lv' := [(9, .int (0 : Int32)), (8, .int (-1 : Int32)), (7, .int (24 : Int32)), (6, .int (-1 : Int32)), (5, .int (32 : Int32)), (4, .int (0 : Int32)), (3, .int (0 : Int32)), (0, .ref (G.1 60)), (1, .int p1), (2, .int p2)]) X dX7_stroke_52 hm (by decide) rfl ?_
      obtain ⟨b19, hb20, hf⟩ := zb1_sp hf
      have hX14 : ∀ t, t = b19 → zu7 (fun (x57 : Int32) (x58 : Int32) (x59 : Int32) (x60 : Int32) (x61 : Int32) (x62 : Int32) (x63 : Int32) => zV κ G 206 [(9, .int x57), (8, .int x58), (7, .int x59), (6, .int x60), (5, .int x61), (4, .int x62), (3, .int x63), (0, .ref (G.1 60)), (1, .int p1), (2, .int p2)] [] M2 F) t := by
        intro t ht
        subst ht
        obtain ⟨x57, x58, x59, x60, x61, x62, x63⟩ := t
        show zV κ G 206 [(9, .int x57), (8, .int x58), (7, .int x59), (6, .int x60), (5, .int x61), (4, .int x62), (3, .int x63), (0, .ref (G.1 60)), (1, .int p1), (2, .int p2)] [] M2 F
        refine z_iload_n X dX7_stroke_206 rfl 9 rfl ?_
        by_cases h64 : p2 = (0 : Int32)
        · have hf := zt h64 hf
          refine z_tableIn (tgt := 240) X dX7_stroke_207 (by rw [h64]; decide) (by rw [h64]; decide) (by rw [h64]; rfl) (by decide) ?_
          refine z_iload_n X dX7_stroke_240 rfl 6 rfl ?_
          exact z_iret X (zR_iM hf Z) dX7_stroke_241
        · have hf := zf h64 hf
          by_cases h65 : p2 = (1 : Int32)
          · have hf := zt h65 hf
            refine z_tableIn (tgt := 242) X dX7_stroke_207 (by rw [h65]; decide) (by rw [h65]; decide) (by rw [h65]; rfl) (by decide) ?_
            refine z_iload X dX7_stroke_242 5 rfl ?_
            exact z_iret X (zR_iM hf Z) dX7_stroke_244
          · have hf := zf h65 hf
            by_cases h66 : p2 = (2 : Int32)
            · have hf := zt h66 hf
              refine z_tableIn (tgt := 245) X dX7_stroke_207 (by rw [h66]; decide) (by rw [h66]; decide) (by rw [h66]; rfl) (by decide) ?_
              refine z_iload X dX7_stroke_245 4 rfl ?_
              exact z_iret X (zR_iM hf Z) dX7_stroke_247
            · have hf := zf h66 hf
              by_cases h67 : p2 = (3 : Int32)
              · have hf := zt h67 hf
                refine z_tableIn (tgt := 248) X dX7_stroke_207 (by rw [h67]; decide) (by rw [h67]; decide) (by rw [h67]; rfl) (by decide) ?_
                refine z_iload X dX7_stroke_248 3 rfl ?_
                exact z_iret X (zR_iM hf Z) dX7_stroke_250
              · have hf := zf h67 hf
                by_cases h68 : p2 = (4 : Int32)
                · have hf := zt h68 hf
                  refine z_tableIn (tgt := 251) X dX7_stroke_207 (by rw [h68]; decide) (by rw [h68]; decide) (by rw [h68]; rfl) (by decide) ?_
                  refine z_iload X dX7_stroke_251 2 rfl ?_
                  exact z_iret X (zR_iM hf Z) dX7_stroke_253
                · have hf := zf h68 hf
                  refine z_tableOut (tgt := 254) X dX7_stroke_207 (by have q0 := lv_neT h64 (a := 0) rfl; have q1 := lv_neT h65 (a := 1) rfl; have q2 := lv_neT h66 (a := 2) rfl; have q3 := lv_neT h67 (a := 3) rfl; have q4 := lv_neT h68 (a := 4) rfl; omega) (by decide) ?_
                  refine z_iload X dX7_stroke_254 1 rfl ?_
                  exact z_iret X (zR_iM hf Z) dX7_stroke_256
      refine zlp_walk (P := zu7 (fun (x7 : Int32) (x8 : Int32) (x9 : Int32) (x10 : Int32) (x11 : Int32) (x12 : Int32) (x13 : Int32) => zV κ G 54 [(9, .int x7), (8, .int x8), (7, .int x9), (6, .int x10), (5, .int x11), (4, .int x12), (3, .int x13), (0, .ref (G.1 60)), (1, .int p1), (2, .int p2)] [] M2 F)) (fun a69 w18 hf hi16 hx17 => ?_) _ _ hb20
      obtain ⟨x7, x8, x9, x10, x11, x12, x13⟩ := a69
      show zV κ G 54 [(9, .int x7), (8, .int x8), (7, .int x9), (6, .int x10), (5, .int x11), (4, .int x12), (3, .int x13), (0, .ref (G.1 60)), (1, .int p1), (2, .int p2)] [] M2 F
      replace hf : fX7_stroke_L54 p1 M2 x7 x8 x9 x10 x11 x12 x13 = some w18 := hf
      unfold fX7_stroke_L54 at hf
      refine z_iload X dX7_stroke_54 0 rfl ?_
      refine z_aload_n X dX7_stroke_56 rfl 7 rfl ?_
      refine gf_X7_173 X dX7_stroke_57 ?_
      refine z_icmp_ge (tgt := 206) X dX7_stroke_60 (by decide) (fun h56 => ?_) (fun h56 => ?_)
      · have hf := zt h56 hf
        have hq := hX14 _ (hx17 _ (Option.some.inj hf).symm)
        exact hq
      · have hf := zf h56 hf
        refine z_aload_n X dX7_stroke_63 rfl 7 rfl ?_
        refine gf_X7_51 X dX7_stroke_64 ?_
        refine z_iload X dX7_stroke_67 0 rfl ?_
        obtain ⟨h21, hf⟩ := zc_sp hf
        refine z_iald X zc_73 zl_73 (zin_sp h21) dX7_stroke_69 ?_
        refine z_iload_n X dX7_stroke_70 rfl 8 rfl ?_
        obtain ⟨k28, k28e, hf⟩ := zj_sp hf
        have hj29 : ∀ (x22 : Int32) (x23 : Int32) (x24 : Int32) (x25 : Int32) (x26 : Int32) (x27 : Int32), k28 x22 x23 x24 x25 x26 x27 = some w18 → zV κ G 200 [(9, .int x7), (8, .int x22), (7, .int x23), (6, .int x24), (5, .int x25), (4, .int x26), (3, .int x27), (0, .ref (G.1 60)), (1, .int p1), (2, .int p2)] [] M2 F := by
          intro x22 x23 x24 x25 x26 x27 hf
          rw [k28e] at hf
          refine z_iinc (lv' := [(9, .int (x7 + (1 : Int32))), (8, .int x22), (7, .int x23), (6, .int x24), (5, .int x25), (4, .int x26), (3, .int x27), (0, .ref (G.1 60)), (1, .int p1), (2, .int p2)]) (v := x7 + (1 : Int32)) X dX7_stroke_200 (j := 0) rfl rfl hm (by decide) rfl ?_
          refine z_goto (tgt := 54) X dX7_stroke_203 (by decide) ?_
          have hq := hi16 _ (Option.some.inj hf).symm
          exact hq
        clear k28e
        refine z_icmp_ne (tgt := 200) X dX7_stroke_71 (by decide) (fun h55 => ?_) (fun h55 => ?_)
        · have hf := zf h55 hf
          exact hj29 x8 x9 x10 x11 x12 x13 hf
        · have hf := zt h55 hf
          refine z_aload_n X dX7_stroke_74 rfl 7 rfl ?_
          refine gf_X7_45 X dX7_stroke_75 ?_
          refine z_iload X dX7_stroke_78 0 rfl ?_
          obtain ⟨h30, hf⟩ := zc_sp hf
          refine z_iald X zc_71 zl_71 (zin_sp h30) dX7_stroke_80 ?_
          refine z_aload_n X dX7_stroke_81 rfl 7 rfl ?_
          refine gf_X7_48 X dX7_stroke_82 ?_
          refine z_iload X dX7_stroke_85 0 rfl ?_
          obtain ⟨h31, hf⟩ := zc_sp hf
          refine z_iald X zc_72 zl_72 (zin_sp h31) dX7_stroke_87 ?_
          refine z_iadd X dX7_stroke_88 ?_
          refine z_iconst (v := (1 : Int32)) X dX7_stroke_89 (by decide) ?_
          refine z_isub X dX7_stroke_90 ?_
          refine z_nmI hf (fun x32 hf => ?_)
          refine z_istore (lv' := [(10, .int x32), (9, .int x7), (8, .int x8), (7, .int x9), (6, .int x10), (5, .int x11), (4, .int x12), (3, .int x13), (0, .ref (G.1 60)), (1, .int p1), (2, .int p2)]) X dX7_stroke_91 hm (by decide) rfl ?_
          refine z_iload_n X dX7_stroke_93 rfl 7 rfl ?_
          refine z_aload_n X dX7_stroke_94 rfl 8 rfl ?_
          refine gf_X7_48 X dX7_stroke_95 ?_
          refine z_iload X dX7_stroke_98 1 rfl ?_
          obtain ⟨h33, hf⟩ := zc_sp hf
          refine z_iald X zc_72 zl_72 (zin_sp h33) dX7_stroke_100 ?_
          refine z_iadd X dX7_stroke_101 ?_
          refine z_nmI hf (fun x34 hf => ?_)
          refine z_istore_n (lv' := [(3, .int x34), (10, .int x32), (9, .int x7), (8, .int x8), (7, .int x9), (6, .int x10), (5, .int x11), (4, .int x12), (0, .ref (G.1 60)), (1, .int p1), (2, .int p2)]) X dX7_stroke_102 rfl hm (by decide) rfl ?_
          refine z_iinc (lv' := [(4, .int (x12 + (1 : Int32))), (3, .int x34), (10, .int x32), (9, .int x7), (8, .int x8), (7, .int x9), (6, .int x10), (5, .int x11), (0, .ref (G.1 60)), (1, .int p1), (2, .int p2)]) (v := x12 + (1 : Int32)) X dX7_stroke_103 (j := 7) rfl rfl hm (by decide) rfl ?_
          refine z_aload_n X dX7_stroke_106 rfl 8 rfl ?_
          refine gf_X7_42 X dX7_stroke_107 ?_
          refine z_iload X dX7_stroke_110 3 rfl ?_
          obtain ⟨h35, hf⟩ := zc_sp hf
          refine z_iald X zc_70 zl_70 (zin_sp h35) dX7_stroke_112 ?_
          refine z_iload X dX7_stroke_113 7 rfl ?_
          obtain ⟨k37, k37e, hf⟩ := zj_sp hf
          have hj38 : ∀ (x36 : Int32), k37 x36 = some w18 → zV κ G 130 [(4, .int (x12 + (1 : Int32))), (3, .int x34), (10, .int x32), (9, .int x7), (8, .int x8), (7, .int x9), (6, .int x10), (5, .int x11), (0, .ref (G.1 60)), (1, .int p1), (2, .int p2)] [.int x36] M2 F := by
            intro x36 hf
            rw [k37e] at hf
            refine z_istore (lv' := [(5, .int x36), (4, .int (x12 + (1 : Int32))), (3, .int x34), (10, .int x32), (9, .int x7), (8, .int x8), (7, .int x9), (6, .int x10), (0, .ref (G.1 60)), (1, .int p1), (2, .int p2)]) X dX7_stroke_130 hm (by decide) rfl ?_
            refine z_aload_n X dX7_stroke_132 rfl 8 rfl ?_
            refine gf_X7_42 X dX7_stroke_133 ?_
            refine z_iload X dX7_stroke_136 4 rfl ?_
            obtain ⟨h41, hf⟩ := zc_sp hf
            refine z_iald X zc_70 zl_70 (zin_sp h41) dX7_stroke_138 ?_
            refine z_iload X dX7_stroke_139 7 rfl ?_
            obtain ⟨k43, k43e, hf⟩ := zj_sp hf
            have hj44 : ∀ (x42 : Int32), k43 x42 = some w18 → zV κ G 156 [(5, .int x36), (4, .int (x12 + (1 : Int32))), (3, .int x34), (10, .int x32), (9, .int x7), (8, .int x8), (7, .int x9), (6, .int x10), (0, .ref (G.1 60)), (1, .int p1), (2, .int p2)] [.int x42] M2 F := by
              intro x42 hf
              rw [k43e] at hf
              refine z_istore (lv' := [(6, .int x42), (5, .int x36), (4, .int (x12 + (1 : Int32))), (3, .int x34), (10, .int x32), (9, .int x7), (8, .int x8), (7, .int x9), (0, .ref (G.1 60)), (1, .int p1), (2, .int p2)]) X dX7_stroke_156 hm (by decide) rfl ?_
              refine z_aload_n X dX7_stroke_158 rfl 8 rfl ?_
              refine gf_X7_45 X dX7_stroke_159 ?_
              refine z_iload X dX7_stroke_162 5 rfl ?_
              obtain ⟨h47, hf⟩ := zc_sp hf
              refine z_iald X zc_71 zl_71 (zin_sp h47) dX7_stroke_164 ?_
              refine z_iload X dX7_stroke_165 7 rfl ?_
              obtain ⟨k49, k49e, hf⟩ := zj_sp hf
              have hj50 : ∀ (x48 : Int32), k49 x48 = some w18 → zV κ G 182 [(6, .int x42), (5, .int x36), (4, .int (x12 + (1 : Int32))), (3, .int x34), (10, .int x32), (9, .int x7), (8, .int x8), (7, .int x9), (0, .ref (G.1 60)), (1, .int p1), (2, .int p2)] [.int x48] M2 F := by
                intro x48 hf
                rw [k49e] at hf
                refine z_istore (lv' := [(7, .int x48), (6, .int x42), (5, .int x36), (4, .int (x12 + (1 : Int32))), (3, .int x34), (10, .int x32), (9, .int x7), (8, .int x8), (0, .ref (G.1 60)), (1, .int p1), (2, .int p2)]) X dX7_stroke_182 hm (by decide) rfl ?_
                refine z_iload X dX7_stroke_184 5 rfl ?_
                refine z_iload X dX7_stroke_186 7 rfl ?_
                have hj : zV κ G 198 [(7, .int x48), (6, .int x42), (5, .int x36), (4, .int (x12 + (1 : Int32))), (3, .int x34), (10, .int x32), (9, .int x7), (8, .int x8), (0, .ref (G.1 60)), (1, .int p1), (2, .int p2)] [.int (if x32 ≤ x8 then x8 else x32)] M2 F := by
                  refine z_nmI hf (fun x54 hf => ?_)
                  refine z_istore (lv' := [(8, .int x54), (7, .int x48), (6, .int x42), (5, .int x36), (4, .int (x12 + (1 : Int32))), (3, .int x34), (10, .int x32), (9, .int x7), (0, .ref (G.1 60)), (1, .int p1), (2, .int p2)]) X dX7_stroke_198 hm (by decide) rfl ?_
                  refine z_sub [7, 0, 1, 2, 3, 4, 5, 8, 9, 10] rfl ?_
                  exact hj29 x54 x48 x42 x36 (x12 + (1 : Int32)) x34 hf
                refine z_icmp_le (tgt := 196) X dX7_stroke_188 (by decide) (fun h53 => ?_) (fun h53 => ?_)
                · try simp only [if_pos h53] at hj
                  refine z_iload X dX7_stroke_196 7 rfl ?_
                  exact hj
                · try simp only [if_neg h53] at hj
                  refine z_iload X dX7_stroke_191 5 rfl ?_
                  refine z_goto (tgt := 198) X dX7_stroke_193 (by decide) ?_
                  exact hj
              clear k49e
              refine z_icmp_ge (tgt := 180) X dX7_stroke_167 (by decide) (fun h52 => ?_) (fun h52 => ?_)
              · have hf := zt h52 hf
                refine z_iload X dX7_stroke_180 7 rfl ?_
                exact hj50 x9 hf
              · have hf := zf h52 hf
                refine z_aload_n X dX7_stroke_170 rfl 8 rfl ?_
                refine gf_X7_45 X dX7_stroke_171 ?_
                refine z_iload X dX7_stroke_174 5 rfl ?_
                obtain ⟨h51, hf⟩ := zc_sp hf
                refine z_iald X zc_71 zl_71 (zin_sp h51) dX7_stroke_176 ?_
                refine z_goto (tgt := 182) X dX7_stroke_177 (by decide) ?_
                exact hj50 (M2 71 x7.toNatClampNeg) hf
            clear k43e
            refine z_icmp_le (tgt := 154) X dX7_stroke_141 (by decide) (fun h46 => ?_) (fun h46 => ?_)
            · have hf := zt h46 hf
              refine z_iload X dX7_stroke_154 7 rfl ?_
              exact hj44 x10 hf
            · have hf := zf h46 hf
              refine z_aload_n X dX7_stroke_144 rfl 8 rfl ?_
              refine gf_X7_42 X dX7_stroke_145 ?_
              refine z_iload X dX7_stroke_148 4 rfl ?_
              obtain ⟨h45, hf⟩ := zc_sp hf
              refine z_iald X zc_70 zl_70 (zin_sp h45) dX7_stroke_150 ?_
              refine z_goto (tgt := 156) X dX7_stroke_151 (by decide) ?_
              exact hj44 (M2 70 x7.toNatClampNeg) hf
          clear k37e
          refine z_icmp_ge (tgt := 128) X dX7_stroke_115 (by decide) (fun h40 => ?_) (fun h40 => ?_)
          · have hf := zt h40 hf
            refine z_iload X dX7_stroke_128 7 rfl ?_
            exact hj38 x11 hf
          · have hf := zf h40 hf
            refine z_aload_n X dX7_stroke_118 rfl 8 rfl ?_
            refine gf_X7_42 X dX7_stroke_119 ?_
            refine z_iload X dX7_stroke_122 3 rfl ?_
            obtain ⟨h39, hf⟩ := zc_sp hf
            refine z_iald X zc_70 zl_70 (zin_sp h39) dX7_stroke_124 ?_
            refine z_goto (tgt := 130) X dX7_stroke_125 (by decide) ?_
            exact hj38 (M2 70 x7.toNatClampNeg) hf
    · have hf := zt h70 hf
      refine z_bipush (v := (-2 : Int32)) X dX7_stroke_29 (by decide) ?_
      exact z_iret X (zR_iM hf Z) dX7_stroke_31
  · have hf := zt h71 hf
    refine z_iconst (v := (-1 : Int32)) X dX7_stroke_18 (by decide) ?_
    exact z_iret X (zR_iM hf Z) dX7_stroke_19
set_option maxHeartbeats 4000000 in
set_option maxRecDepth 100000 in
theorem mtX7_isFoot (l : Launch) (D : va_G) (G : zG) {p1 : Int32} {p2 : Int32} {M : zMem} {F : Int64} {ro : Int32} (hf : fX7_isFoot p1 p2 M = some ro) : zCM l yX7_isFoot wX7_isFoot { frames := 3, cells := 0, slots := 0, locals := 65 } D G [.ref (G.1 60), .int p1, .int p2] M F (some (.int ro)) M F := by
  refine zCM.ofV (own := RX7) (cc := cX7_isFoot) (maxL := 3) (ret := (some .boolean)) (lv := [(0, .ref (G.1 60)), (1, .int p1), (2, .int p2)]) (by decide) rfl rfl (Nat.le_of_ble_eq_true rfl) rfl (fun κ X Z hm hκ1 hκ2 => ?_)
  subst hκ1 hκ2
  unfold fX7_isFoot at hf
  refine z_aload_n X dX7_isFoot_0 rfl 0 rfl ?_
  refine z_iload_n X dX7_isFoot_1 rfl 1 rfl ?_
  refine z_iload_n X dX7_isFoot_2 rfl 2 rfl ?_
  obtain ⟨r2, h1, hf⟩ := zb1_sp hf
  refine gc_X7_88 (st := []) X (mtX7_isDot κ.2.1 κ.2.2.2.2.2.2.2.2.2.2.1 G  h1) rfl rfl (Nat.le_of_ble_eq_true rfl) (Nat.le_of_ble_eq_true rfl) (Nat.le_of_ble_eq_true rfl) dX7_isFoot_3 ?_
  obtain ⟨k4, k4e, hf⟩ := zj_sp hf
  have hj5 : ∀ (x3 : Int32), k4 x3 = some ro → zV κ G 25 [(0, .ref (G.1 60)), (1, .int p1), (2, .int p2)] [.int x3] M F := by
    intro x3 hf
    rw [k4e] at hf
    obtain ⟨h10, hf⟩ := zc_sp hf
    exact z_zret X (z01_sp h10) (zR_i hf Z) dX7_isFoot_25
  clear k4e
  refine z_if_eq (tgt := 24) X dX7_isFoot_6 (by decide) (fun h9 => ?_) (fun h9 => ?_)
  · have hf := zt h9 hf
    refine z_iconst (v := (0 : Int32)) X dX7_isFoot_24 (by decide) ?_
    exact hj5 (0 : Int32) hf
  · have hf := zf h9 hf
    refine z_aload_n X dX7_isFoot_9 rfl 0 rfl ?_
    refine z_iload_n X dX7_isFoot_10 rfl 1 rfl ?_
    refine z_iload_n X dX7_isFoot_11 rfl 2 rfl ?_
    refine z_iconst (v := (1 : Int32)) X dX7_isFoot_12 (by decide) ?_
    refine z_iadd X dX7_isFoot_13 ?_
    obtain ⟨r7, h6, hf⟩ := zb1_sp hf
    refine gc_X7_88 (st := []) X (mtX7_isDot κ.2.1 κ.2.2.2.2.2.2.2.2.2.2.1 G  h6) rfl rfl (Nat.le_of_ble_eq_true rfl) (Nat.le_of_ble_eq_true rfl) (Nat.le_of_ble_eq_true rfl) dX7_isFoot_14 ?_
    refine z_if_ne (tgt := 24) X dX7_isFoot_17 (by decide) (fun h8 => ?_) (fun h8 => ?_)
    · have hf := zf h8 hf
      refine z_iconst (v := (0 : Int32)) X dX7_isFoot_24 (by decide) ?_
      exact hj5 (0 : Int32) hf
    · have hf := zt h8 hf
      refine z_iconst (v := (1 : Int32)) X dX7_isFoot_20 (by decide) ?_
      refine z_goto (tgt := 25) X dX7_isFoot_21 (by decide) ?_
      exact hj5 (1 : Int32) hf
set_option maxHeartbeats 4000000 in
set_option maxRecDepth 100000 in
theorem mtX7_leadsAt (l : Launch) (D : va_G) (G : zG) {p1 : Int32} {p2 : Int32} {M : zMem} {F : Int64} {ro : Int32} (hf : fX7_leadsAt p1 p2 M = some ro) : zCM l yX7_leadsAt wX7_leadsAt { frames := 2, cells := 0, slots := 0, locals := 43 } D G [.ref (G.1 60), .int p1, .int p2] M F (some (.int ro)) M F := by
  refine zCM.ofV (own := RX7) (cc := cX7_leadsAt) (maxL := 3) (ret := (some .int)) (lv := [(0, .ref (G.1 60)), (1, .int p1), (2, .int p2)]) (by decide) rfl rfl (Nat.le_of_ble_eq_true rfl) rfl (fun κ X Z hm hκ1 hκ2 => ?_)
  subst hκ1 hκ2
  unfold fX7_leadsAt at hf
  refine z_aload_n X dX7_leadsAt_0 rfl 0 rfl ?_
  refine z_iload_n X dX7_leadsAt_1 rfl 1 rfl ?_
  obtain ⟨r2, h1, hf⟩ := zb1_sp hf
  refine gc_X7_70 (st := []) X (mtX7_isColumn κ.2.1 κ.2.2.2.2.2.2.2.2.2.2.1 G  h1) rfl rfl (Nat.le_of_ble_eq_true rfl) (Nat.le_of_ble_eq_true rfl) (Nat.le_of_ble_eq_true rfl) dX7_leadsAt_2 ?_
  obtain ⟨k4, k4e, hf⟩ := zj_sp hf
  have hj5 : ∀ (x3 : Int32), k4 x3 = some ro → zV κ G 30 [(0, .ref (G.1 60)), (1, .int p1), (2, .int p2)] [.int x3] M F := by
    intro x3 hf
    rw [k4e] at hf
    exact z_iret X (zR_i hf Z) dX7_leadsAt_30
  clear k4e
  refine z_if_eq (tgt := 29) X dX7_leadsAt_5 (by decide) (fun h10 => ?_) (fun h10 => ?_)
  · have hf := zt h10 hf
    refine z_iconst (v := (0 : Int32)) X dX7_leadsAt_29 (by decide) ?_
    exact hj5 (0 : Int32) hf
  · have hf := zf h10 hf
    refine z_iload_n X dX7_leadsAt_8 rfl 2 rfl ?_
    obtain ⟨r7, h6, hf⟩ := zb1_sp hf
    refine gc_X7_74 (st := []) X (mtX7_isRow κ.2.1 κ.2.2.2.2.2.2.2.2.2.2.1 G  h6) rfl rfl (Nat.le_of_ble_eq_true rfl) (Nat.le_of_ble_eq_true rfl) (Nat.le_of_ble_eq_true rfl) dX7_leadsAt_9 ?_
    refine z_if_eq (tgt := 29) X dX7_leadsAt_12 (by decide) (fun h9 => ?_) (fun h9 => ?_)
    · have hf := zt h9 hf
      refine z_iconst (v := (0 : Int32)) X dX7_leadsAt_29 (by decide) ?_
      exact hj5 (0 : Int32) hf
    · have hf := zf h9 hf
      refine z_aload_n X dX7_leadsAt_15 rfl 0 rfl ?_
      refine gf_X7_54 X dX7_leadsAt_16 ?_
      refine z_bipush (v := (32 : Int32)) X dX7_leadsAt_19 (by decide) ?_
      refine z_iload_n X dX7_leadsAt_21 rfl 1 rfl ?_
      refine z_imul X dX7_leadsAt_22 ?_
      refine z_iload_n X dX7_leadsAt_23 rfl 2 rfl ?_
      refine z_iadd X dX7_leadsAt_24 ?_
      obtain ⟨h8, hf⟩ := zc_sp hf
      refine z_iald X zc_74 zl_74 (zin_sp h8) dX7_leadsAt_25 ?_
      refine z_goto (tgt := 30) X dX7_leadsAt_26 (by decide) ?_
      exact hj5 (M 74 (((32 : Int32) * p1) + p2).toNatClampNeg) hf
set_option maxHeartbeats 4000000 in
set_option maxRecDepth 100000 in
theorem mtX7_findLeads (l : Launch) (D : va_G) (G : zG) {M : zMem} {F : Int64} {Mo : zMem} (hf : fX7_findLeads M = some Mo) : zCM l yX7_findLeads wX7_findLeads { frames := 4, cells := 0, slots := 0, locals := 87 } D G [.ref (G.1 60)] M F none Mo F := by
  refine zCM.ofV (own := RX7) (cc := cX7_findLeads) (maxL := 6) (ret := none) (lv := [(0, .ref (G.1 60))]) (by decide) rfl rfl (Nat.le_of_ble_eq_true rfl) rfl (fun κ X Z hm hκ1 hκ2 => ?_)
  subst hκ1 hκ2
  unfold fX7_findLeads at hf
  refine z_aload_n X dX7_findLeads_0 rfl 0 rfl ?_
  refine gf_X7_7 X dX7_findLeads_1 ?_
  refine z_iconst (v := (1 : Int32)) X dX7_findLeads_4 (by decide) ?_
  refine z_isub X dX7_findLeads_5 ?_
  refine z_nmI hf (fun x1 hf => ?_)
  refine z_istore_n (lv' := [(1, .int x1), (0, .ref (G.1 60))]) X dX7_findLeads_6 rfl hm (by decide) rfl ?_
  obtain ⟨b9, hb10, hf⟩ := zb1_sp hf
  have hX4 : ∀ t, t = b9 → zu2 (fun (x48 : Int32) (M49 : zMem) => zV κ G 103 [(1, .int x48), (0, .ref (G.1 60))] [] M49 F) t := by
    intro t ht
    subst ht
    obtain ⟨x48, M49⟩ := t
    show zV κ G 103 [(1, .int x48), (0, .ref (G.1 60))] [] M49 F
    exact z_vret X (zR_M hf Z) dX7_findLeads_103
  refine zlp_walk (P := zu2 (fun (x2 : Int32) (M3 : zMem) => zV κ G 7 [(1, .int x2), (0, .ref (G.1 60))] [] M3 F)) (fun a50 w8 hf hi6 hx7 => ?_) _ _ hb10
  obtain ⟨x2, M3⟩ := a50
  show zV κ G 7 [(1, .int x2), (0, .ref (G.1 60))] [] M3 F
  replace hf : fX7_findLeads_L7 x2 M3 = some w8 := hf
  unfold fX7_findLeads_L7 at hf
  refine z_iload_n X dX7_findLeads_7 rfl 0 rfl ?_
  refine z_if_lt (tgt := 103) X dX7_findLeads_8 (by decide) (fun h47 => ?_) (fun h47 => ?_)
  · have hf := zt h47 hf
    have hq := hX4 _ (hx7 _ (Option.some.inj hf).symm)
    exact hq
  · have hf := zf h47 hf
    refine z_iconst (v := (0 : Int32)) X dX7_findLeads_11 (by decide) ?_
    refine z_istore_n (lv' := [(2, .int (0 : Int32)), (1, .int x2), (0, .ref (G.1 60))]) X dX7_findLeads_12 rfl hm (by decide) rfl ?_
    obtain ⟨b18, hb19, hf⟩ := zb1_sp hf
    have hX13 : ∀ t, t = b18 → zu2 (fun (x44 : Int32) (M45 : zMem) => zV κ G 97 [(2, .int x44), (1, .int x2), (0, .ref (G.1 60))] [] M45 F) t := by
      intro t ht
      subst ht
      obtain ⟨x44, M45⟩ := t
      show zV κ G 97 [(2, .int x44), (1, .int x2), (0, .ref (G.1 60))] [] M45 F
      refine z_iinc (lv' := [(1, .int (x2 + (-1 : Int32))), (2, .int x44), (0, .ref (G.1 60))]) (v := x2 + (-1 : Int32)) X dX7_findLeads_97 (j := 1) rfl rfl hm (by decide) rfl ?_
      refine z_goto (tgt := 7) X dX7_findLeads_100 (by decide) ?_
      refine z_sub [0, 2] rfl ?_
      have hq := hi6 _ (Option.some.inj hf).symm
      exact hq
    refine zlp_walk (P := zu2 (fun (x11 : Int32) (M12 : zMem) => zV κ G 13 [(2, .int x11), (1, .int x2), (0, .ref (G.1 60))] [] M12 F)) (fun a46 w17 hf hi15 hx16 => ?_) _ _ hb19
    obtain ⟨x11, M12⟩ := a46
    show zV κ G 13 [(2, .int x11), (1, .int x2), (0, .ref (G.1 60))] [] M12 F
    replace hf : fX7_findLeads_L13 x2 x11 M12 = some w17 := hf
    unfold fX7_findLeads_L13 at hf
    refine z_iload_n X dX7_findLeads_13 rfl 0 rfl ?_
    refine z_bipush (v := (32 : Int32)) X dX7_findLeads_14 (by decide) ?_
    refine z_icmp_ge (tgt := 97) X dX7_findLeads_16 (by decide) (fun h43 => ?_) (fun h43 => ?_)
    · have hf := zt h43 hf
      have hq := hX13 _ (hx16 _ (Option.some.inj hf).symm)
      exact hq
    · have hf := zf h43 hf
      refine z_iconst (v := (0 : Int32)) X dX7_findLeads_19 (by decide) ?_
      refine z_istore_n (lv' := [(3, .int (0 : Int32)), (2, .int x11), (1, .int x2), (0, .ref (G.1 60))]) X dX7_findLeads_20 rfl hm (by decide) rfl ?_
      refine z_iload_n X dX7_findLeads_21 rfl 1 rfl ?_
      refine z_iconst (v := (1 : Int32)) X dX7_findLeads_22 (by decide) ?_
      refine z_isub X dX7_findLeads_23 ?_
      refine z_nmI hf (fun x20 hf => ?_)
      refine z_istore (lv' := [(4, .int x20), (3, .int (0 : Int32)), (2, .int x11), (1, .int x2), (0, .ref (G.1 60))]) X dX7_findLeads_24 hm (by decide) rfl ?_
      obtain ⟨b28, hb29, hf⟩ := zb1_sp hf
      have hX23 : ∀ t, t = b28 → zu2 (fun (x35 : Int32) (x36 : Int32) => zV κ G 64 [(4, .int x35), (3, .int x36), (2, .int x11), (1, .int x2), (0, .ref (G.1 60))] [] M12 F) t := by
        intro t ht
        subst ht
        obtain ⟨x35, x36⟩ := t
        show zV κ G 64 [(4, .int x35), (3, .int x36), (2, .int x11), (1, .int x2), (0, .ref (G.1 60))] [] M12 F
        refine z_aload_n X dX7_findLeads_64 rfl 4 rfl ?_
        refine gf_X7_54 X dX7_findLeads_65 ?_
        refine z_bipush (v := (32 : Int32)) X dX7_findLeads_68 (by decide) ?_
        refine z_iload_n X dX7_findLeads_70 rfl 3 rfl ?_
        refine z_imul X dX7_findLeads_71 ?_
        refine z_iload_n X dX7_findLeads_72 rfl 2 rfl ?_
        refine z_iadd X dX7_findLeads_73 ?_
        refine z_aload_n X dX7_findLeads_74 rfl 4 rfl ?_
        refine z_iload_n X dX7_findLeads_75 rfl 3 rfl ?_
        refine z_iload_n X dX7_findLeads_76 rfl 2 rfl ?_
        obtain ⟨r38, h37, hf⟩ := zb1_sp hf
        refine gc_X7_194 (st := [.int (((32 : Int32) * x2) + x11), .ref (G.1 74)]) X (mtX7_isFoot κ.2.1 κ.2.2.2.2.2.2.2.2.2.2.1 G  h37) rfl rfl (Nat.le_of_ble_eq_true rfl) (Nat.le_of_ble_eq_true rfl) (Nat.le_of_ble_eq_true rfl) dX7_findLeads_77 ?_
        have hj : zV κ G 90 [(4, .int x35), (3, .int x36), (2, .int x11), (1, .int x2), (0, .ref (G.1 60))] [.int (if r38 = 0 then (0 : Int32) else (x36 + (1 : Int32))), .int (((32 : Int32) * x2) + x11), .ref (G.1 74)] M12 F := by
          obtain ⟨h40, hf⟩ := zc_sp hf
          refine z_iast X zc_74 zl_74 (zin_sp h40) dX7_findLeads_90 ?_
          refine z_nmM hf (fun M41 hf => ?_)
          refine z_iinc (lv' := [(2, .int (x11 + (1 : Int32))), (4, .int x35), (3, .int x36), (1, .int x2), (0, .ref (G.1 60))]) (v := x11 + (1 : Int32)) X dX7_findLeads_91 (j := 2) rfl rfl hm (by decide) rfl ?_
          refine z_goto (tgt := 13) X dX7_findLeads_94 (by decide) ?_
          refine z_sub [0, 3, 4] rfl ?_
          have hq := hi15 _ (Option.some.inj hf).symm
          exact hq
        refine z_if_eq (tgt := 89) X dX7_findLeads_80 (by decide) (fun h39 => ?_) (fun h39 => ?_)
        · try simp only [if_pos h39] at hj
          refine z_iconst (v := (0 : Int32)) X dX7_findLeads_89 (by decide) ?_
          exact hj
        · try simp only [if_neg h39] at hj
          refine z_iload_n X dX7_findLeads_83 rfl 1 rfl ?_
          refine z_iconst (v := (1 : Int32)) X dX7_findLeads_84 (by decide) ?_
          refine z_iadd X dX7_findLeads_85 ?_
          refine z_goto (tgt := 90) X dX7_findLeads_86 (by decide) ?_
          exact hj
      refine zlp_walk (P := zu2 (fun (x21 : Int32) (x22 : Int32) => zV κ G 26 [(4, .int x21), (3, .int x22), (2, .int x11), (1, .int x2), (0, .ref (G.1 60))] [] M12 F)) (fun a42 w27 hf hi25 hx26 => ?_) _ _ hb29
      obtain ⟨x21, x22⟩ := a42
      show zV κ G 26 [(4, .int x21), (3, .int x22), (2, .int x11), (1, .int x2), (0, .ref (G.1 60))] [] M12 F
      replace hf : fX7_findLeads_L26 x2 x11 M12 x21 x22 = some w27 := hf
      unfold fX7_findLeads_L26 at hf
      refine z_iload X dX7_findLeads_26 0 rfl ?_
      refine z_iload_n X dX7_findLeads_28 rfl 2 rfl ?_
      refine z_iconst (v := (1 : Int32)) X dX7_findLeads_29 (by decide) ?_
      refine z_iadd X dX7_findLeads_30 ?_
      refine z_icmp_gt (tgt := 64) X dX7_findLeads_31 (by decide) (fun h34 => ?_) (fun h34 => ?_)
      · have hf := zt h34 hf
        have hq := hX23 _ (hx26 _ (Option.some.inj hf).symm)
        exact hq
      · have hf := zf h34 hf
        refine z_aload_n X dX7_findLeads_34 rfl 4 rfl ?_
        refine z_iload_n X dX7_findLeads_35 rfl 3 rfl ?_
        refine z_iconst (v := (1 : Int32)) X dX7_findLeads_36 (by decide) ?_
        refine z_iadd X dX7_findLeads_37 ?_
        refine z_iload X dX7_findLeads_38 0 rfl ?_
        obtain ⟨r31, h30, hf⟩ := zb1_sp hf
        refine gc_X7_191 (st := []) X (mtX7_leadsAt κ.2.1 κ.2.2.2.2.2.2.2.2.2.2.1 G  h30) rfl rfl (Nat.le_of_ble_eq_true rfl) (Nat.le_of_ble_eq_true rfl) (Nat.le_of_ble_eq_true rfl) dX7_findLeads_40 ?_
        refine z_istore (lv' := [(5, .int r31), (4, .int x21), (3, .int x22), (2, .int x11), (1, .int x2), (0, .ref (G.1 60))]) X dX7_findLeads_43 hm (by decide) rfl ?_
        refine z_iload X dX7_findLeads_45 0 rfl ?_
        refine z_iload_n X dX7_findLeads_47 rfl 2 rfl ?_
        have hj : zV κ G 57 [(5, .int r31), (4, .int x21), (3, .int x22), (2, .int x11), (1, .int x2), (0, .ref (G.1 60))] [.int (if r31 ≤ x22 then x22 else r31)] M12 F := by
          refine z_nmI hf (fun x33 hf => ?_)
          refine z_istore_n (lv' := [(3, .int x33), (5, .int r31), (4, .int x21), (2, .int x11), (1, .int x2), (0, .ref (G.1 60))]) X dX7_findLeads_57 rfl hm (by decide) rfl ?_
          refine z_iinc (lv' := [(4, .int (x21 + (1 : Int32))), (3, .int x33), (5, .int r31), (2, .int x11), (1, .int x2), (0, .ref (G.1 60))]) (v := x21 + (1 : Int32)) X dX7_findLeads_58 (j := 2) rfl rfl hm (by decide) rfl ?_
          refine z_goto (tgt := 26) X dX7_findLeads_61 (by decide) ?_
          refine z_sub [0, 1, 3, 4, 5] rfl ?_
          have hq := hi25 _ (Option.some.inj hf).symm
          exact hq
        refine z_icmp_le (tgt := 56) X dX7_findLeads_48 (by decide) (fun h32 => ?_) (fun h32 => ?_)
        · try simp only [if_pos h32] at hj
          refine z_iload_n X dX7_findLeads_56 rfl 2 rfl ?_
          exact hj
        · try simp only [if_neg h32] at hj
          refine z_iload X dX7_findLeads_51 0 rfl ?_
          refine z_goto (tgt := 57) X dX7_findLeads_53 (by decide) ?_
          exact hj
set_option maxHeartbeats 4000000 in
set_option maxRecDepth 100000 in
theorem mtX7_lowest (l : Launch) (D : va_G) (G : zG) {p1 : Int32} {p2 : Int32} {p3 : Int32} {p4 : Int32} {M : zMem} {F : Int64} {ro : Int32} (hf : fX7_lowest p1 p2 p3 p4 M = some ro) : zCM l yX7_lowest wX7_lowest { frames := 3, cells := 0, slots := 0, locals := 65 } D G [.ref (G.1 60), .int p1, .int p2, .int p3, .int p4] M F (some (.int ro)) M F := by
  refine zCM.ofV (own := RX7) (cc := cX7_lowest) (maxL := 6) (ret := (some .int)) (lv := [(0, .ref (G.1 60)), (1, .int p1), (2, .int p2), (3, .int p3), (4, .int p4)]) (by decide) rfl rfl (Nat.le_of_ble_eq_true rfl) rfl (fun κ X Z hm hκ1 hκ2 => ?_)
  subst hκ1 hκ2
  unfold fX7_lowest at hf
  refine z_iload_n X dX7_lowest_0 rfl 3 rfl ?_
  refine z_istore (lv' := [(5, .int p3), (0, .ref (G.1 60)), (1, .int p1), (2, .int p2), (3, .int p3), (4, .int p4)]) X dX7_lowest_1 hm (by decide) rfl ?_
  refine z_sub [0, 1, 2, 3, 5] rfl ?_
  obtain ⟨b7, hb8, hf⟩ := zbr_sp hf
  have hX2 : ∀ t, Sum.inl t = b7 → zu1 (fun (x13 : Int32) => zV κ G 30 [(5, .int x13), (0, .ref (G.1 60)), (1, .int p1), (2, .int p2), (4, .int p4)] [] M F) t := by
    intro t ht
    subst ht
    obtain ⟨x13, rfl⟩ : ∃ z, z = t := ⟨_, rfl⟩
    show zV κ G 30 [(5, .int x13), (0, .ref (G.1 60)), (1, .int p1), (2, .int p2), (4, .int p4)] [] M F
    refine z_bipush (v := (-9 : Int32)) X dX7_lowest_30 (by decide) ?_
    exact z_iret X (zR_i hf Z) dX7_lowest_32
  have hR3 : ∀ r, Sum.inr r = b7 → some r = some ro := by
    intro r hr
    subst hr
    exact hf
  refine zlp_walk (P := zu1 (fun (x1 : Int32) => zV κ G 3 [(5, .int x1), (0, .ref (G.1 60)), (1, .int p1), (2, .int p2), (4, .int p4)] [] M F)) (fun a14 w6 hf hi4 hx5 => ?_) _ _ hb8
  obtain ⟨x1, rfl⟩ : ∃ z, z = a14 := ⟨_, rfl⟩
  show zV κ G 3 [(5, .int x1), (0, .ref (G.1 60)), (1, .int p1), (2, .int p2), (4, .int p4)] [] M F
  replace hf : fX7_lowest_L3 p1 p2 p4 M x1 = some w6 := hf
  unfold fX7_lowest_L3 at hf
  refine z_iload X dX7_lowest_3 0 rfl ?_
  refine z_iload_n X dX7_lowest_5 rfl 3 rfl ?_
  refine z_icmp_lt (tgt := 30) X dX7_lowest_6 (by decide) (fun h12 => ?_) (fun h12 => ?_)
  · have hf := zt h12 hf
    have hq := hX2 _ (hx5 _ (Option.some.inj hf).symm)
    exact hq
  · have hf := zf h12 hf
    refine z_aload_n X dX7_lowest_9 rfl 1 rfl ?_
    refine z_iload_n X dX7_lowest_10 rfl 2 rfl ?_
    refine z_iload X dX7_lowest_11 0 rfl ?_
    obtain ⟨r10, h9, hf⟩ := zb1_sp hf
    refine gc_X7_191 (st := []) X (mtX7_leadsAt κ.2.1 κ.2.2.2.2.2.2.2.2.2.2.1 G  h9) rfl rfl (Nat.le_of_ble_eq_true rfl) (Nat.le_of_ble_eq_true rfl) (Nat.le_of_ble_eq_true rfl) dX7_lowest_13 ?_
    refine z_iload X dX7_lowest_16 4 rfl ?_
    refine z_icmp_ne (tgt := 24) X dX7_lowest_18 (by decide) (fun h11 => ?_) (fun h11 => ?_)
    · have hf := zf h11 hf
      refine z_iinc (lv' := [(5, .int (x1 + (-1 : Int32))), (0, .ref (G.1 60)), (1, .int p1), (2, .int p2), (4, .int p4)]) (v := x1 + (-1 : Int32)) X dX7_lowest_24 (j := 0) rfl rfl hm (by decide) rfl ?_
      refine z_goto (tgt := 3) X dX7_lowest_27 (by decide) ?_
      have hq := hi4 _ (Option.some.inj hf).symm
      exact hq
    · have hf := zt h11 hf
      refine z_iload X dX7_lowest_21 0 rfl ?_
      have hf := hR3 _ (hx5 _ (Option.some.inj hf).symm)
      exact z_iret X (zR_i hf Z) dX7_lowest_23
