set_option maxHeartbeats 4000000 in
set_option maxRecDepth 100000 in
theorem mtX5_firstRun (l : Launch) (D : va_G) (G : zG) {p1 : Int32} {M : zMem} {F : Int64} {ro : Int32} (hf : fX5_firstRun p1 M = some ro) : zCM l yX5_firstRun wX5_firstRun { frames := 0, cells := 0, slots := 0, locals := 0 } D G [.ref (G.1 26), .int p1] M F (some (.int ro)) M F := by
  refine zCM.ofV (own := RX5) (cc := cX5_firstRun) (maxL := 4) (ret := (some .int)) (lv := [(0, .ref (G.1 26)), (1, .int p1)]) (by decide) rfl rfl (Nat.le_of_ble_eq_true rfl) rfl (fun κ X Z hm hκ1 hκ2 => ?_)
  subst hκ1 hκ2
  unfold fX5_firstRun at hf
  refine z_iload_n X dX5_firstRun_0 rfl 1 rfl ?_
  refine z_istore_n (lv' := [(2, .int p1), (0, .ref (G.1 26)), (1, .int p1)]) X dX5_firstRun_1 rfl hm (by decide) rfl ?_
  refine z_iconst (v := (0 : Int32)) X dX5_firstRun_2 (by decide) ?_
  refine z_istore_n (lv' := [(3, .int (0 : Int32)), (2, .int p1), (0, .ref (G.1 26)), (1, .int p1)]) X dX5_firstRun_3 rfl hm (by decide) rfl ?_
  refine z_sub [0, 1, 2] rfl ?_
  obtain ⟨b8, hb9, hf⟩ := zb1_sp hf
  have hX3 : ∀ t, t = b8 → zu2 (fun (x15 : Int32) (x16 : Int32) => zV κ G 35 [(3, .int x15), (2, .int x16), (0, .ref (G.1 26))] [] M F) t := by
    intro t ht
    subst ht
    obtain ⟨x15, x16⟩ := t
    show zV κ G 35 [(3, .int x15), (2, .int x16), (0, .ref (G.1 26))] [] M F
    refine z_iload_n X dX5_firstRun_35 rfl 1 rfl ?_
    exact z_iret X (zR_i hf Z) dX5_firstRun_36
  refine zlp_walk (P := zu2 (fun (x1 : Int32) (x2 : Int32) => zV κ G 4 [(3, .int x1), (2, .int x2), (0, .ref (G.1 26))] [] M F)) (fun a17 w7 hf hi5 hx6 => ?_) _ _ hb9
  obtain ⟨x1, x2⟩ := a17
  show zV κ G 4 [(3, .int x1), (2, .int x2), (0, .ref (G.1 26))] [] M F
  replace hf : fX5_firstRun_L4 M x1 x2 = some w7 := hf
  unfold fX5_firstRun_L4 at hf
  refine z_iload_n X dX5_firstRun_4 rfl 0 rfl ?_
  refine z_aload_n X dX5_firstRun_5 rfl 2 rfl ?_
  refine gf_X5_27 X dX5_firstRun_6 ?_
  refine z_icmp_ge (tgt := 35) X dX5_firstRun_9 (by decide) (fun h14 => ?_) (fun h14 => ?_)
  · have hf := zt h14 hf
    have hq := hX3 _ (hx6 _ (Option.some.inj hf).symm)
    exact hq
  · have hf := zf h14 hf
    refine z_aload_n X dX5_firstRun_12 rfl 2 rfl ?_
    refine gf_X5_21 X dX5_firstRun_13 ?_
    refine z_iload_n X dX5_firstRun_16 rfl 1 rfl ?_
    obtain ⟨h10, hf⟩ := zc_sp hf
    refine z_iald X zc_30 zl_30 (zin_sp h10) dX5_firstRun_17 ?_
    refine z_iload_n X dX5_firstRun_18 rfl 1 rfl ?_
    refine z_icmp_eq (tgt := 35) X dX5_firstRun_19 (by decide) (fun h13 => ?_) (fun h13 => ?_)
    · have hf := zt h13 hf
      have hq := hX3 _ (hx6 _ (Option.some.inj hf).symm)
      exact hq
    · have hf := zf h13 hf
      refine z_aload_n X dX5_firstRun_22 rfl 2 rfl ?_
      refine gf_X5_21 X dX5_firstRun_23 ?_
      refine z_iload_n X dX5_firstRun_26 rfl 1 rfl ?_
      obtain ⟨h11, hf⟩ := zc_sp hf
      refine z_iald X zc_30 zl_30 (zin_sp h11) dX5_firstRun_27 ?_
      refine z_nmI hf (fun x12 hf => ?_)
      refine z_istore_n (lv' := [(2, .int x12), (3, .int x1), (0, .ref (G.1 26))]) X dX5_firstRun_28 rfl hm (by decide) rfl ?_
      refine z_iinc (lv' := [(3, .int (x1 + (1 : Int32))), (2, .int x12), (0, .ref (G.1 26))]) (v := x1 + (1 : Int32)) X dX5_firstRun_29 (j := 1) rfl rfl hm (by decide) rfl ?_
      refine z_goto (tgt := 4) X dX5_firstRun_32 (by decide) ?_
      have hq := hi5 _ (Option.some.inj hf).symm
      exact hq
set_option maxHeartbeats 4000000 in
set_option maxRecDepth 100000 in
theorem mtX5_join (l : Launch) (D : va_G) (G : zG) {p1 : Int32} {p2 : Int32} {M : zMem} {F : Int64} {Mo : zMem} (hf : fX5_join p1 p2 M = some Mo) : zCM l yX5_join wX5_join { frames := 1, cells := 0, slots := 0, locals := 24 } D G [.ref (G.1 26), .int p1, .int p2] M F none Mo F := by
  refine zCM.ofV (own := RX5) (cc := cX5_join) (maxL := 5) (ret := none) (lv := [(0, .ref (G.1 26)), (1, .int p1), (2, .int p2)]) (by decide) rfl rfl (Nat.le_of_ble_eq_true rfl) rfl (fun κ X Z hm hκ1 hκ2 => ?_)
  subst hκ1 hκ2
  unfold fX5_join at hf
  refine z_aload_n X dX5_join_0 rfl 0 rfl ?_
  refine z_iload_n X dX5_join_1 rfl 1 rfl ?_
  obtain ⟨r2, h1, hf⟩ := zb1_sp hf
  refine gc_X5_82 (st := []) X (mtX5_firstRun κ.2.1 κ.2.2.2.2.2.2.2.2.2.2.1 G  h1) rfl rfl (Nat.le_of_ble_eq_true rfl) (Nat.le_of_ble_eq_true rfl) (Nat.le_of_ble_eq_true rfl) dX5_join_2 ?_
  refine z_istore_n (lv' := [(3, .int r2), (0, .ref (G.1 26)), (1, .int p1), (2, .int p2)]) X dX5_join_5 rfl hm (by decide) rfl ?_
  refine z_aload_n X dX5_join_6 rfl 1 rfl ?_
  refine z_iload_n X dX5_join_7 rfl 3 rfl ?_
  obtain ⟨r4, h3, hf⟩ := zb1_sp hf
  refine gc_X5_82 (st := []) X (mtX5_firstRun κ.2.1 κ.2.2.2.2.2.2.2.2.2.2.1 G  h3) rfl rfl (Nat.le_of_ble_eq_true rfl) (Nat.le_of_ble_eq_true rfl) (Nat.le_of_ble_eq_true rfl) dX5_join_8 ?_
  refine z_istore (lv' := [(4, .int r4), (3, .int r2), (0, .ref (G.1 26)), (1, .int p1), (2, .int p2)]) X dX5_join_11 hm (by decide) rfl ?_
  refine z_aload_n X dX5_join_13 rfl 2 rfl ?_
  refine gf_X5_21 X dX5_join_14 ?_
  refine z_iload_n X dX5_join_17 rfl 1 rfl ?_
  refine z_iload X dX5_join_18 0 rfl ?_
  refine z_mmax X (List.mem_cons_of_mem _ zw_24_22) (List.mem_cons_of_mem _ zw_6_7) (List.mem_cons_of_mem _ zw_6_4) (List.mem_cons_of_mem _ zw_6_8) (Nat.le_of_ble_eq_true rfl) (Nat.le_of_ble_eq_true rfl) dX5_join_20 ?_
  refine z_iload_n X dX5_join_23 rfl 1 rfl ?_
  refine z_iload X dX5_join_24 0 rfl ?_
  refine z_mmin X (List.mem_cons_of_mem _ zw_24_23) (List.mem_cons_of_mem _ zw_6_3) (List.mem_cons_of_mem _ zw_6_4) (List.mem_cons_of_mem _ zw_6_5) (Nat.le_of_ble_eq_true rfl) (Nat.le_of_ble_eq_true rfl) dX5_join_26 ?_
  obtain ⟨h5, hf⟩ := zc_sp hf
  refine z_iast X zc_30 zl_30 (zin_sp h5) dX5_join_29 ?_
  refine z_nmM hf (fun M6 hf => ?_)
  exact z_vret X (zR_M hf Z) dX5_join_30
set_option maxHeartbeats 4000000 in
set_option maxRecDepth 100000 in
theorem mtX5_linkRows (l : Launch) (D : va_G) (G : zG) {p1 : Int32} {p2 : Int32} {M : zMem} {F : Int64} {Mo : zMem} (hf : fX5_linkRows p1 p2 M = some Mo) : zCM l yX5_linkRows wX5_linkRows { frames := 2, cells := 0, slots := 0, locals := 48 } D G [.ref (G.1 26), .int p1, .int p2] M F none Mo F := by
  refine zCM.ofV (own := RX5) (cc := cX5_linkRows) (maxL := 5) (ret := none) (lv := [(0, .ref (G.1 26)), (1, .int p1), (2, .int p2)]) (by decide) rfl rfl (Nat.le_of_ble_eq_true rfl) rfl (fun κ X Z hm hκ1 hκ2 => ?_)
  subst hκ1 hκ2
  unfold fX5_linkRows at hf
  refine z_iload_n X dX5_linkRows_0 rfl 1 rfl ?_
  refine z_istore_n (lv' := [(3, .int p1), (0, .ref (G.1 26)), (1, .int p1), (2, .int p2)]) X dX5_linkRows_1 rfl hm (by decide) rfl ?_
  refine z_sub [0, 1, 3] rfl ?_
  obtain ⟨b8, hb9, hf⟩ := zb1_sp hf
  have hX3 : ∀ t, t = b8 → zu2 (fun (x35 : Int32) (M36 : zMem) => zV κ G 74 [(3, .int x35), (0, .ref (G.1 26)), (2, .int p2)] [] M36 F) t := by
    intro t ht
    subst ht
    obtain ⟨x35, M36⟩ := t
    show zV κ G 74 [(3, .int x35), (0, .ref (G.1 26)), (2, .int p2)] [] M36 F
    exact z_vret X (zR_M hf Z) dX5_linkRows_74
  refine zlp_walk (P := zu2 (fun (x1 : Int32) (M2 : zMem) => zV κ G 2 [(3, .int x1), (0, .ref (G.1 26)), (2, .int p2)] [] M2 F)) (fun a37 w7 hf hi5 hx6 => ?_) _ _ hb9
  obtain ⟨x1, M2⟩ := a37
  show zV κ G 2 [(3, .int x1), (0, .ref (G.1 26)), (2, .int p2)] [] M2 F
  replace hf : fX5_linkRows_L2 p2 x1 M2 = some w7 := hf
  unfold fX5_linkRows_L2 at hf
  refine z_iload_n X dX5_linkRows_2 rfl 0 rfl ?_
  refine z_iload_n X dX5_linkRows_3 rfl 2 rfl ?_
  refine z_icmp_ge (tgt := 74) X dX5_linkRows_4 (by decide) (fun h34 => ?_) (fun h34 => ?_)
  · have hf := zt h34 hf
    have hq := hX3 _ (hx6 _ (Option.some.inj hf).symm)
    exact hq
  · have hf := zf h34 hf
    refine z_iload_n X dX5_linkRows_7 rfl 2 rfl ?_
    refine z_istore (lv' := [(4, .int p2), (3, .int x1), (0, .ref (G.1 26)), (2, .int p2)]) X dX5_linkRows_8 hm (by decide) rfl ?_
    obtain ⟨b17, hb18, hf⟩ := zb1_sp hf
    have hX12 : ∀ t, t = b17 → zu2 (fun (x31 : Int32) (M32 : zMem) => zV κ G 68 [(4, .int x31), (3, .int x1), (0, .ref (G.1 26)), (2, .int p2)] [] M32 F) t := by
      intro t ht
      subst ht
      obtain ⟨x31, M32⟩ := t
      show zV κ G 68 [(4, .int x31), (3, .int x1), (0, .ref (G.1 26)), (2, .int p2)] [] M32 F
      refine z_iinc (lv' := [(3, .int (x1 + (1 : Int32))), (4, .int x31), (0, .ref (G.1 26)), (2, .int p2)]) (v := x1 + (1 : Int32)) X dX5_linkRows_68 (j := 1) rfl rfl hm (by decide) rfl ?_
      refine z_goto (tgt := 2) X dX5_linkRows_71 (by decide) ?_
      refine z_sub [0, 2, 3] rfl ?_
      have hq := hi5 _ (Option.some.inj hf).symm
      exact hq
    refine zlp_walk (P := zu2 (fun (x10 : Int32) (M11 : zMem) => zV κ G 10 [(4, .int x10), (3, .int x1), (0, .ref (G.1 26)), (2, .int p2)] [] M11 F)) (fun a33 w16 hf hi14 hx15 => ?_) _ _ hb18
    obtain ⟨x10, M11⟩ := a33
    show zV κ G 10 [(4, .int x10), (3, .int x1), (0, .ref (G.1 26)), (2, .int p2)] [] M11 F
    replace hf : fX5_linkRows_L10 x1 x10 M11 = some w16 := hf
    unfold fX5_linkRows_L10 at hf
    refine z_iload X dX5_linkRows_10 0 rfl ?_
    refine z_aload_n X dX5_linkRows_12 rfl 2 rfl ?_
    refine gf_X5_27 X dX5_linkRows_13 ?_
    refine z_icmp_ge (tgt := 68) X dX5_linkRows_16 (by decide) (fun h30 => ?_) (fun h30 => ?_)
    · have hf := zt h30 hf
      have hq := hX12 _ (hx15 _ (Option.some.inj hf).symm)
      exact hq
    · have hf := zf h30 hf
      refine z_aload_n X dX5_linkRows_19 rfl 2 rfl ?_
      refine gf_X5_15 X dX5_linkRows_20 ?_
      refine z_iload_n X dX5_linkRows_23 rfl 1 rfl ?_
      obtain ⟨h19, hf⟩ := zc_sp hf
      refine z_iald X zc_28 zl_28 (zin_sp h19) dX5_linkRows_24 ?_
      refine z_aload_n X dX5_linkRows_25 rfl 2 rfl ?_
      refine gf_X5_18 X dX5_linkRows_26 ?_
      refine z_iload X dX5_linkRows_29 0 rfl ?_
      obtain ⟨h20, hf⟩ := zc_sp hf
      refine z_iald X zc_29 zl_29 (zin_sp h20) dX5_linkRows_31 ?_
      refine z_iconst (v := (1 : Int32)) X dX5_linkRows_32 (by decide) ?_
      refine z_iadd X dX5_linkRows_33 ?_
      obtain ⟨k22, k22e, hf⟩ := zj_sp hf
      have hj23 : ∀ (M21 : zMem), k22 M21 = some w16 → zV κ G 62 [(4, .int x10), (3, .int x1), (0, .ref (G.1 26)), (2, .int p2)] [] M21 F := by
        intro M21 hf
        rw [k22e] at hf
        refine z_iinc (lv' := [(4, .int (x10 + (1 : Int32))), (3, .int x1), (0, .ref (G.1 26)), (2, .int p2)]) (v := x10 + (1 : Int32)) X dX5_linkRows_62 (j := 0) rfl rfl hm (by decide) rfl ?_
        refine z_goto (tgt := 10) X dX5_linkRows_65 (by decide) ?_
        have hq := hi14 _ (Option.some.inj hf).symm
        exact hq
      clear k22e
      refine z_icmp_gt (tgt := 62) X dX5_linkRows_34 (by decide) (fun h29 => ?_) (fun h29 => ?_)
      · have hf := zt h29 hf
        exact hj23 M11 hf
      · have hf := zf h29 hf
        refine z_aload_n X dX5_linkRows_37 rfl 2 rfl ?_
        refine gf_X5_15 X dX5_linkRows_38 ?_
        refine z_iload X dX5_linkRows_41 0 rfl ?_
        obtain ⟨h24, hf⟩ := zc_sp hf
        refine z_iald X zc_28 zl_28 (zin_sp h24) dX5_linkRows_43 ?_
        refine z_aload_n X dX5_linkRows_44 rfl 2 rfl ?_
        refine gf_X5_18 X dX5_linkRows_45 ?_
        refine z_iload_n X dX5_linkRows_48 rfl 1 rfl ?_
        obtain ⟨h25, hf⟩ := zc_sp hf
        refine z_iald X zc_29 zl_29 (zin_sp h25) dX5_linkRows_49 ?_
        refine z_iconst (v := (1 : Int32)) X dX5_linkRows_50 (by decide) ?_
        refine z_iadd X dX5_linkRows_51 ?_
        refine z_icmp_gt (tgt := 62) X dX5_linkRows_52 (by decide) (fun h28 => ?_) (fun h28 => ?_)
        · have hf := zt h28 hf
          exact hj23 M11 hf
        · have hf := zf h28 hf
          refine z_aload_n X dX5_linkRows_55 rfl 2 rfl ?_
          refine z_iload_n X dX5_linkRows_56 rfl 1 rfl ?_
          refine z_iload X dX5_linkRows_57 0 rfl ?_
          obtain ⟨M27, h26, hf⟩ := zb1_sp hf
          refine gc_X5_79 (st := []) X (mtX5_join κ.2.1 κ.2.2.2.2.2.2.2.2.2.2.1 G  h26) rfl rfl (Nat.le_of_ble_eq_true rfl) (Nat.le_of_ble_eq_true rfl) (Nat.le_of_ble_eq_true rfl) dX5_linkRows_59 ?_
          exact hj23 M27 hf
set_option maxHeartbeats 4000000 in
set_option maxRecDepth 100000 in
theorem mtX5_numberStrokes (l : Launch) (D : va_G) (G : zG) {M : zMem} {F : Int64} {Mo : zMem} (hf : fX5_numberStrokes M = some Mo) : zCM l yX5_numberStrokes wX5_numberStrokes { frames := 0, cells := 0, slots := 0, locals := 0 } D G [.ref (G.1 26)] M F none Mo F := by
  refine zCM.ofV (own := RX5) (cc := cX5_numberStrokes) (maxL := 2) (ret := none) (lv := [(0, .ref (G.1 26))]) (by decide) rfl rfl (Nat.le_of_ble_eq_true rfl) rfl (fun κ X Z hm hκ1 hκ2 => ?_)
  subst hκ1 hκ2
  unfold fX5_numberStrokes at hf
  refine z_aload_n X dX5_numberStrokes_0 rfl 0 rfl ?_
  refine z_iconst (v := (0 : Int32)) X dX5_numberStrokes_1 (by decide) ?_
  refine pf_X5_31 X dX5_numberStrokes_2 ?_
  refine z_nmM hf (fun M1 hf => ?_)
  refine z_iconst (v := (0 : Int32)) X dX5_numberStrokes_5 (by decide) ?_
  refine z_istore_n (lv' := [(1, .int (0 : Int32)), (0, .ref (G.1 26))]) X dX5_numberStrokes_6 rfl hm (by decide) rfl ?_
  obtain ⟨b9, hb10, hf⟩ := zb1_sp hf
  have hX4 : ∀ t, t = b9 → zu2 (fun (x24 : Int32) (M25 : zMem) => zV κ G 71 [(1, .int x24), (0, .ref (G.1 26))] [] M25 F) t := by
    intro t ht
    subst ht
    obtain ⟨x24, M25⟩ := t
    show zV κ G 71 [(1, .int x24), (0, .ref (G.1 26))] [] M25 F
    exact z_vret X (zR_M hf Z) dX5_numberStrokes_71
  refine zlp_walk (P := zu2 (fun (x2 : Int32) (M3 : zMem) => zV κ G 7 [(1, .int x2), (0, .ref (G.1 26))] [] M3 F)) (fun a26 w8 hf hi6 hx7 => ?_) _ _ hb10
  obtain ⟨x2, M3⟩ := a26
  show zV κ G 7 [(1, .int x2), (0, .ref (G.1 26))] [] M3 F
  replace hf : fX5_numberStrokes_L7 x2 M3 = some w8 := hf
  unfold fX5_numberStrokes_L7 at hf
  refine z_iload_n X dX5_numberStrokes_7 rfl 0 rfl ?_
  refine z_aload_n X dX5_numberStrokes_8 rfl 1 rfl ?_
  refine gf_X5_27 X dX5_numberStrokes_9 ?_
  refine z_icmp_ge (tgt := 71) X dX5_numberStrokes_12 (by decide) (fun h23 => ?_) (fun h23 => ?_)
  · have hf := zt h23 hf
    have hq := hX4 _ (hx7 _ (Option.some.inj hf).symm)
    exact hq
  · have hf := zf h23 hf
    refine z_aload_n X dX5_numberStrokes_15 rfl 1 rfl ?_
    refine gf_X5_21 X dX5_numberStrokes_16 ?_
    refine z_iload_n X dX5_numberStrokes_19 rfl 0 rfl ?_
    obtain ⟨h11, hf⟩ := zc_sp hf
    refine z_iald X zc_30 zl_30 (zin_sp h11) dX5_numberStrokes_20 ?_
    refine z_iload_n X dX5_numberStrokes_21 rfl 0 rfl ?_
    obtain ⟨k13, k13e, hf⟩ := zj_sp hf
    have hj14 : ∀ (M12 : zMem), k13 M12 = some w8 → zV κ G 65 [(1, .int x2), (0, .ref (G.1 26))] [] M12 F := by
      intro M12 hf
      rw [k13e] at hf
      refine z_iinc (lv' := [(1, .int (x2 + (1 : Int32))), (0, .ref (G.1 26))]) (v := x2 + (1 : Int32)) X dX5_numberStrokes_65 (j := 0) rfl rfl hm (by decide) rfl ?_
      refine z_goto (tgt := 7) X dX5_numberStrokes_68 (by decide) ?_
      have hq := hi6 _ (Option.some.inj hf).symm
      exact hq
    clear k13e
    refine z_icmp_ne (tgt := 48) X dX5_numberStrokes_22 (by decide) (fun h22 => ?_) (fun h22 => ?_)
    · have hf := zf h22 hf
      refine z_aload_n X dX5_numberStrokes_48 rfl 1 rfl ?_
      refine gf_X5_24 X dX5_numberStrokes_49 ?_
      refine z_iload_n X dX5_numberStrokes_52 rfl 0 rfl ?_
      refine z_aload_n X dX5_numberStrokes_53 rfl 1 rfl ?_
      refine gf_X5_24 X dX5_numberStrokes_54 ?_
      refine z_aload_n X dX5_numberStrokes_57 rfl 1 rfl ?_
      refine gf_X5_21 X dX5_numberStrokes_58 ?_
      refine z_iload_n X dX5_numberStrokes_61 rfl 0 rfl ?_
      obtain ⟨h15, hf⟩ := zc_sp hf
      refine z_iald X zc_30 zl_30 (zin_sp h15) dX5_numberStrokes_62 ?_
      obtain ⟨h16, hf⟩ := zc_sp hf
      refine z_iald X zc_31 zl_31 (zin_sp h16) dX5_numberStrokes_63 ?_
      obtain ⟨h17, hf⟩ := zc_sp hf
      refine z_iast X zc_31 zl_31 (zin_sp h17) dX5_numberStrokes_64 ?_
      refine z_nmM hf (fun M18 hf => ?_)
      exact hj14 M18 hf
    · have hf := zt h22 hf
      refine z_aload_n X dX5_numberStrokes_25 rfl 1 rfl ?_
      refine gf_X5_24 X dX5_numberStrokes_26 ?_
      refine z_iload_n X dX5_numberStrokes_29 rfl 0 rfl ?_
      refine z_aload_n X dX5_numberStrokes_30 rfl 1 rfl ?_
      refine gf_X5_31 X dX5_numberStrokes_31 ?_
      obtain ⟨h19, hf⟩ := zc_sp hf
      refine z_iast X zc_31 zl_31 (zin_sp h19) dX5_numberStrokes_34 ?_
      refine z_nmM hf (fun M20 hf => ?_)
      refine z_aload_n X dX5_numberStrokes_35 rfl 1 rfl ?_
      refine z_dup X dX5_numberStrokes_36 rfl ?_
      refine gf_X5_31 X dX5_numberStrokes_37 ?_
      refine z_iconst (v := (1 : Int32)) X dX5_numberStrokes_40 (by decide) ?_
      refine z_iadd X dX5_numberStrokes_41 ?_
      refine pf_X5_31 X dX5_numberStrokes_42 ?_
      refine z_nmM hf (fun M21 hf => ?_)
      refine z_goto (tgt := 65) X dX5_numberStrokes_45 (by decide) ?_
      exact hj14 M21 hf
set_option maxHeartbeats 4000000 in
set_option maxRecDepth 100000 in
theorem mtX5_find (l : Launch) (D : va_G) (G : zG) {M : zMem} {F : Int64} {Mo : zMem} (hf : fX5_find M = some Mo) : zCM l yX5_find wX5_find { frames := 4, cells := 0, slots := 0, locals := 89 } D G [.ref (G.1 26), .ref (G.1 1)] M F none Mo F := by
  refine zCM.ofV (own := RX5) (cc := cX5_find) (maxL := 5) (ret := none) (lv := [(0, .ref (G.1 26)), (1, .ref (G.1 1))]) (by decide) rfl rfl (Nat.le_of_ble_eq_true rfl) rfl (fun κ X Z hm hκ1 hκ2 => ?_)
  subst hκ1 hκ2
  unfold fX5_find at hf
  refine z_aload_n X dX5_find_0 rfl 0 rfl ?_
  refine z_iconst (v := (0 : Int32)) X dX5_find_1 (by decide) ?_
  refine pf_X5_27 X dX5_find_2 ?_
  refine z_nmM hf (fun M1 hf => ?_)
  refine z_iconst (v := (0 : Int32)) X dX5_find_5 (by decide) ?_
  refine z_istore_n (lv' := [(2, .int (0 : Int32)), (0, .ref (G.1 26)), (1, .ref (G.1 1))]) X dX5_find_6 rfl hm (by decide) rfl ?_
  refine z_iconst (v := (0 : Int32)) X dX5_find_7 (by decide) ?_
  refine z_istore_n (lv' := [(3, .int (0 : Int32)), (2, .int (0 : Int32)), (0, .ref (G.1 26)), (1, .ref (G.1 1))]) X dX5_find_8 rfl hm (by decide) rfl ?_
  obtain ⟨b10, hb11, hf⟩ := zb1_sp hf
  have hX5 : ∀ t, t = b10 → zu3 (fun (x18 : Int32) (x19 : Int32) (M20 : zMem) => zV κ G 43 [(3, .int x18), (2, .int x19), (0, .ref (G.1 26)), (1, .ref (G.1 1))] [] M20 F) t := by
    intro t ht
    subst ht
    obtain ⟨x18, x19, M20⟩ := t
    show zV κ G 43 [(3, .int x18), (2, .int x19), (0, .ref (G.1 26)), (1, .ref (G.1 1))] [] M20 F
    refine z_aload_n X dX5_find_43 rfl 2 rfl ?_
    obtain ⟨M22, h21, hf⟩ := zb1_sp hf
    refine gc_X5_42 (st := []) X (mtX5_numberStrokes κ.2.1 κ.2.2.2.2.2.2.2.2.2.2.1 G  h21) rfl rfl (Nat.le_of_ble_eq_true rfl) (Nat.le_of_ble_eq_true rfl) (Nat.le_of_ble_eq_true rfl) dX5_find_44 ?_
    exact z_vret X (zR_M hf Z) dX5_find_47
  refine zlp_walk (P := zu3 (fun (x2 : Int32) (x3 : Int32) (M4 : zMem) => zV κ G 9 [(3, .int x2), (2, .int x3), (0, .ref (G.1 26)), (1, .ref (G.1 1))] [] M4 F)) (fun a23 w9 hf hi7 hx8 => ?_) _ _ hb11
  obtain ⟨x2, x3, M4⟩ := a23
  show zV κ G 9 [(3, .int x2), (2, .int x3), (0, .ref (G.1 26)), (1, .ref (G.1 1))] [] M4 F
  replace hf : fX5_find_L9 x2 x3 M4 = some w9 := hf
  unfold fX5_find_L9 at hf
  refine z_iload_n X dX5_find_9 rfl 0 rfl ?_
  refine z_bipush (v := (32 : Int32)) X dX5_find_10 (by decide) ?_
  refine z_icmp_ge (tgt := 43) X dX5_find_12 (by decide) (fun h17 => ?_) (fun h17 => ?_)
  · have hf := zt h17 hf
    have hq := hX5 _ (hx8 _ (Option.some.inj hf).symm)
    exact hq
  · have hf := zf h17 hf
    refine z_aload_n X dX5_find_15 rfl 2 rfl ?_
    refine gf_X5_27 X dX5_find_16 ?_
    refine z_nmI hf (fun x12 hf => ?_)
    refine z_istore (lv' := [(4, .int x12), (3, .int x2), (2, .int x3), (0, .ref (G.1 26)), (1, .ref (G.1 1))]) X dX5_find_19 hm (by decide) rfl ?_
    refine z_aload_n X dX5_find_21 rfl 3 rfl ?_
    refine z_aload_n X dX5_find_22 rfl 4 rfl ?_
    refine z_iload_n X dX5_find_23 rfl 1 rfl ?_
    obtain ⟨M14, h13, hf⟩ := zb1_sp hf
    refine gc_X5_34 (st := []) X (mtX5_addRuns κ.2.1 κ.2.2.2.2.2.2.2.2.2.2.1 G  h13) rfl rfl (Nat.le_of_ble_eq_true rfl) (Nat.le_of_ble_eq_true rfl) (Nat.le_of_ble_eq_true rfl) dX5_find_24 ?_
    refine z_aload_n X dX5_find_27 rfl 3 rfl ?_
    refine z_iload_n X dX5_find_28 rfl 2 rfl ?_
    refine z_iload X dX5_find_29 0 rfl ?_
    obtain ⟨M16, h15, hf⟩ := zb1_sp hf
    refine gc_X5_38 (st := []) X (mtX5_linkRows κ.2.1 κ.2.2.2.2.2.2.2.2.2.2.1 G  h15) rfl rfl (Nat.le_of_ble_eq_true rfl) (Nat.le_of_ble_eq_true rfl) (Nat.le_of_ble_eq_true rfl) dX5_find_31 ?_
    refine z_iload X dX5_find_34 0 rfl ?_
    refine z_istore_n (lv' := [(2, .int x12), (4, .int x12), (3, .int x2), (0, .ref (G.1 26)), (1, .ref (G.1 1))]) X dX5_find_36 rfl hm (by decide) rfl ?_
    refine z_iinc (lv' := [(3, .int (x2 + (1 : Int32))), (2, .int x12), (4, .int x12), (0, .ref (G.1 26)), (1, .ref (G.1 1))]) (v := x2 + (1 : Int32)) X dX5_find_37 (j := 2) rfl rfl hm (by decide) rfl ?_
    refine z_goto (tgt := 9) X dX5_find_40 (by decide) ?_
    refine z_sub [0, 1, 3, 4] rfl ?_
    have hq := hi7 _ (Option.some.inj hf).symm
    exact hq
set_option maxHeartbeats 4000000 in
set_option maxRecDepth 100000 in
theorem mtX5_runs (l : Launch) (D : va_G) (G : zG) {M : zMem} {F : Int64} {ro : Int32} (hf : fX5_runs M = some ro) : zCM l yX5_runs wX5_runs { frames := 0, cells := 0, slots := 0, locals := 0 } D G [.ref (G.1 26)] M F (some (.int ro)) M F := by
  refine zCM.ofV (own := RX5) (cc := cX5_runs) (maxL := 1) (ret := (some .int)) (lv := [(0, .ref (G.1 26))]) (by decide) rfl rfl (Nat.le_of_ble_eq_true rfl) rfl (fun κ X Z hm hκ1 hκ2 => ?_)
  subst hκ1 hκ2
  unfold fX5_runs at hf
  refine z_aload_n X dX5_runs_0 rfl 0 rfl ?_
  refine gf_X5_27 X dX5_runs_1 ?_
  exact z_iret X (zR_i hf Z) dX5_runs_4
set_option maxHeartbeats 4000000 in
set_option maxRecDepth 100000 in
theorem mtX5_count (l : Launch) (D : va_G) (G : zG) {M : zMem} {F : Int64} {ro : Int32} (hf : fX5_count M = some ro) : zCM l yX5_count wX5_count { frames := 0, cells := 0, slots := 0, locals := 0 } D G [.ref (G.1 26)] M F (some (.int ro)) M F := by
  refine zCM.ofV (own := RX5) (cc := cX5_count) (maxL := 1) (ret := (some .int)) (lv := [(0, .ref (G.1 26))]) (by decide) rfl rfl (Nat.le_of_ble_eq_true rfl) rfl (fun κ X Z hm hκ1 hκ2 => ?_)
  subst hκ1 hκ2
  unfold fX5_count at hf
  refine z_aload_n X dX5_count_0 rfl 0 rfl ?_
  refine gf_X5_31 X dX5_count_1 ?_
  exact z_iret X (zR_i hf Z) dX5_count_4
set_option maxHeartbeats 4000000 in
set_option maxRecDepth 100000 in
theorem mtX5_isRun (l : Launch) (D : va_G) (G : zG) {p1 : Int32} {M : zMem} {F : Int64} {ro : Int32} (hf : fX5_isRun p1 M = some ro) : zCM l yX5_isRun wX5_isRun { frames := 0, cells := 0, slots := 0, locals := 0 } D G [.ref (G.1 26), .int p1] M F (some (.int ro)) M F := by
  refine zCM.ofV (own := RX5) (cc := cX5_isRun) (maxL := 2) (ret := (some .boolean)) (lv := [(0, .ref (G.1 26)), (1, .int p1)]) (by decide) rfl rfl (Nat.le_of_ble_eq_true rfl) rfl (fun κ X Z hm hκ1 hκ2 => ?_)
  subst hκ1 hκ2
  unfold fX5_isRun at hf
  refine z_iload_n X dX5_isRun_0 rfl 1 rfl ?_
  have hj : zV κ G 17 [(0, .ref (G.1 26)), (1, .int p1)] [.int (if p1 < 0 then (0 : Int32) else (if (M 26 5) ≤ p1 then (0 : Int32) else (1 : Int32)))] M F := by
    exact z_zret X (z01_ite (Or.inl rfl) (z01_ite (Or.inl rfl) (Or.inr rfl))) (zR_i hf Z) dX5_isRun_17
  refine z_if_lt (tgt := 16) X dX5_isRun_1 (by decide) (fun h1 => ?_) (fun h1 => ?_)
  · try simp only [if_pos h1] at hj
    refine z_iconst (v := (0 : Int32)) X dX5_isRun_16 (by decide) ?_
    exact hj
  · try simp only [if_neg h1] at hj
    refine z_iload_n X dX5_isRun_4 rfl 1 rfl ?_
    refine z_aload_n X dX5_isRun_5 rfl 0 rfl ?_
    refine gf_X5_27 X dX5_isRun_6 ?_
    refine z_icmp_ge (tgt := 16) X dX5_isRun_9 (by decide) (fun h2 => ?_) (fun h2 => ?_)
    · try simp only [if_pos h2] at hj
      refine z_iconst (v := (0 : Int32)) X dX5_isRun_16 (by decide) ?_
      exact hj
    · try simp only [if_neg h2] at hj
      refine z_iconst (v := (1 : Int32)) X dX5_isRun_12 (by decide) ?_
      refine z_goto (tgt := 17) X dX5_isRun_13 (by decide) ?_
      exact hj
set_option maxHeartbeats 4000000 in
set_option maxRecDepth 100000 in
theorem mtX5_rowOf (l : Launch) (D : va_G) (G : zG) {p1 : Int32} {M : zMem} {F : Int64} {ro : Int32} (hf : fX5_rowOf p1 M = some ro) : zCM l yX5_rowOf wX5_rowOf { frames := 1, cells := 0, slots := 0, locals := 21 } D G [.ref (G.1 26), .int p1] M F (some (.int ro)) M F := by
  refine zCM.ofV (own := RX5) (cc := cX5_rowOf) (maxL := 2) (ret := (some .int)) (lv := [(0, .ref (G.1 26)), (1, .int p1)]) (by decide) rfl rfl (Nat.le_of_ble_eq_true rfl) rfl (fun κ X Z hm hκ1 hκ2 => ?_)
  subst hκ1 hκ2
  unfold fX5_rowOf at hf
  refine z_aload_n X dX5_rowOf_0 rfl 0 rfl ?_
  refine z_iload_n X dX5_rowOf_1 rfl 1 rfl ?_
  obtain ⟨r2, h1, hf⟩ := zb1_sp hf
  refine gc_X5_45 (st := []) X (mtX5_isRun κ.2.1 κ.2.2.2.2.2.2.2.2.2.2.1 G  h1) rfl rfl (Nat.le_of_ble_eq_true rfl) (Nat.le_of_ble_eq_true rfl) (Nat.le_of_ble_eq_true rfl) dX5_rowOf_2 ?_
  obtain ⟨k4, k4e, hf⟩ := zj_sp hf
  have hj5 : ∀ (x3 : Int32), k4 x3 = some ro → zV κ G 18 [(0, .ref (G.1 26)), (1, .int p1)] [.int x3] M F := by
    intro x3 hf
    rw [k4e] at hf
    exact z_iret X (zR_i hf Z) dX5_rowOf_18
  clear k4e
  refine z_if_eq (tgt := 17) X dX5_rowOf_5 (by decide) (fun h7 => ?_) (fun h7 => ?_)
  · have hf := zt h7 hf
    refine z_iconst (v := (-1 : Int32)) X dX5_rowOf_17 (by decide) ?_
    exact hj5 (-1 : Int32) hf
  · have hf := zf h7 hf
    refine z_aload_n X dX5_rowOf_8 rfl 0 rfl ?_
    refine gf_X5_11 X dX5_rowOf_9 ?_
    refine z_iload_n X dX5_rowOf_12 rfl 1 rfl ?_
    obtain ⟨h6, hf⟩ := zc_sp hf
    refine z_iald X zc_27 zl_27 (zin_sp h6) dX5_rowOf_13 ?_
    refine z_goto (tgt := 18) X dX5_rowOf_14 (by decide) ?_
    exact hj5 (M 27 p1.toNatClampNeg) hf
set_option maxHeartbeats 4000000 in
set_option maxRecDepth 100000 in
theorem mtX5_firstOf (l : Launch) (D : va_G) (G : zG) {p1 : Int32} {M : zMem} {F : Int64} {ro : Int32} (hf : fX5_firstOf p1 M = some ro) : zCM l yX5_firstOf wX5_firstOf { frames := 1, cells := 0, slots := 0, locals := 21 } D G [.ref (G.1 26), .int p1] M F (some (.int ro)) M F := by
  refine zCM.ofV (own := RX5) (cc := cX5_firstOf) (maxL := 2) (ret := (some .int)) (lv := [(0, .ref (G.1 26)), (1, .int p1)]) (by decide) rfl rfl (Nat.le_of_ble_eq_true rfl) rfl (fun κ X Z hm hκ1 hκ2 => ?_)
  subst hκ1 hκ2
  unfold fX5_firstOf at hf
  refine z_aload_n X dX5_firstOf_0 rfl 0 rfl ?_
  refine z_iload_n X dX5_firstOf_1 rfl 1 rfl ?_
  obtain ⟨r2, h1, hf⟩ := zb1_sp hf
  refine gc_X5_45 (st := []) X (mtX5_isRun κ.2.1 κ.2.2.2.2.2.2.2.2.2.2.1 G  h1) rfl rfl (Nat.le_of_ble_eq_true rfl) (Nat.le_of_ble_eq_true rfl) (Nat.le_of_ble_eq_true rfl) dX5_firstOf_2 ?_
  obtain ⟨k4, k4e, hf⟩ := zj_sp hf
  have hj5 : ∀ (x3 : Int32), k4 x3 = some ro → zV κ G 18 [(0, .ref (G.1 26)), (1, .int p1)] [.int x3] M F := by
    intro x3 hf
    rw [k4e] at hf
    exact z_iret X (zR_i hf Z) dX5_firstOf_18
  clear k4e
  refine z_if_eq (tgt := 17) X dX5_firstOf_5 (by decide) (fun h7 => ?_) (fun h7 => ?_)
  · have hf := zt h7 hf
    refine z_iconst (v := (-1 : Int32)) X dX5_firstOf_17 (by decide) ?_
    exact hj5 (-1 : Int32) hf
  · have hf := zf h7 hf
    refine z_aload_n X dX5_firstOf_8 rfl 0 rfl ?_
    refine gf_X5_15 X dX5_firstOf_9 ?_
    refine z_iload_n X dX5_firstOf_12 rfl 1 rfl ?_
    obtain ⟨h6, hf⟩ := zc_sp hf
    refine z_iald X zc_28 zl_28 (zin_sp h6) dX5_firstOf_13 ?_
    refine z_goto (tgt := 18) X dX5_firstOf_14 (by decide) ?_
    exact hj5 (M 28 p1.toNatClampNeg) hf
set_option maxHeartbeats 4000000 in
set_option maxRecDepth 100000 in
theorem mtX5_dotsOf (l : Launch) (D : va_G) (G : zG) {p1 : Int32} {M : zMem} {F : Int64} {ro : Int32} (hf : fX5_dotsOf p1 M = some ro) : zCM l yX5_dotsOf wX5_dotsOf { frames := 1, cells := 0, slots := 0, locals := 21 } D G [.ref (G.1 26), .int p1] M F (some (.int ro)) M F := by
  refine zCM.ofV (own := RX5) (cc := cX5_dotsOf) (maxL := 2) (ret := (some .int)) (lv := [(0, .ref (G.1 26)), (1, .int p1)]) (by decide) rfl rfl (Nat.le_of_ble_eq_true rfl) rfl (fun κ X Z hm hκ1 hκ2 => ?_)
  subst hκ1 hκ2
  unfold fX5_dotsOf at hf
  refine z_aload_n X dX5_dotsOf_0 rfl 0 rfl ?_
  refine z_iload_n X dX5_dotsOf_1 rfl 1 rfl ?_
  obtain ⟨r2, h1, hf⟩ := zb1_sp hf
  refine gc_X5_45 (st := []) X (mtX5_isRun κ.2.1 κ.2.2.2.2.2.2.2.2.2.2.1 G  h1) rfl rfl (Nat.le_of_ble_eq_true rfl) (Nat.le_of_ble_eq_true rfl) (Nat.le_of_ble_eq_true rfl) dX5_dotsOf_2 ?_
  obtain ⟨k4, k4e, hf⟩ := zj_sp hf
  have hj5 : ∀ (x3 : Int32), k4 x3 = some ro → zV κ G 27 [(0, .ref (G.1 26)), (1, .int p1)] [.int x3] M F := by
    intro x3 hf
    rw [k4e] at hf
    exact z_iret X (zR_i hf Z) dX5_dotsOf_27
  clear k4e
  refine z_if_eq (tgt := 26) X dX5_dotsOf_5 (by decide) (fun h8 => ?_) (fun h8 => ?_)
  · have hf := zt h8 hf
    refine z_iconst (v := (-1 : Int32)) X dX5_dotsOf_26 (by decide) ?_
    exact hj5 (-1 : Int32) hf
  · have hf := zf h8 hf
    refine z_aload_n X dX5_dotsOf_8 rfl 0 rfl ?_
    refine gf_X5_18 X dX5_dotsOf_9 ?_
    refine z_iload_n X dX5_dotsOf_12 rfl 1 rfl ?_
    obtain ⟨h6, hf⟩ := zc_sp hf
    refine z_iald X zc_29 zl_29 (zin_sp h6) dX5_dotsOf_13 ?_
    refine z_aload_n X dX5_dotsOf_14 rfl 0 rfl ?_
    refine gf_X5_15 X dX5_dotsOf_15 ?_
    refine z_iload_n X dX5_dotsOf_18 rfl 1 rfl ?_
    obtain ⟨h7, hf⟩ := zc_sp hf
    refine z_iald X zc_28 zl_28 (zin_sp h7) dX5_dotsOf_19 ?_
    refine z_isub X dX5_dotsOf_20 ?_
    refine z_iconst (v := (1 : Int32)) X dX5_dotsOf_21 (by decide) ?_
    refine z_iadd X dX5_dotsOf_22 ?_
    refine z_goto (tgt := 27) X dX5_dotsOf_23 (by decide) ?_
    exact hj5 (((M 29 p1.toNatClampNeg) - (M 28 p1.toNatClampNeg)) + (1 : Int32)) hf
set_option maxHeartbeats 4000000 in
set_option maxRecDepth 100000 in
theorem mtX5_strokeOf (l : Launch) (D : va_G) (G : zG) {p1 : Int32} {M : zMem} {F : Int64} {ro : Int32} (hf : fX5_strokeOf p1 M = some ro) : zCM l yX5_strokeOf wX5_strokeOf { frames := 1, cells := 0, slots := 0, locals := 21 } D G [.ref (G.1 26), .int p1] M F (some (.int ro)) M F := by
  refine zCM.ofV (own := RX5) (cc := cX5_strokeOf) (maxL := 2) (ret := (some .int)) (lv := [(0, .ref (G.1 26)), (1, .int p1)]) (by decide) rfl rfl (Nat.le_of_ble_eq_true rfl) rfl (fun κ X Z hm hκ1 hκ2 => ?_)
  subst hκ1 hκ2
  unfold fX5_strokeOf at hf
  refine z_aload_n X dX5_strokeOf_0 rfl 0 rfl ?_
  refine z_iload_n X dX5_strokeOf_1 rfl 1 rfl ?_
  obtain ⟨r2, h1, hf⟩ := zb1_sp hf
  refine gc_X5_45 (st := []) X (mtX5_isRun κ.2.1 κ.2.2.2.2.2.2.2.2.2.2.1 G  h1) rfl rfl (Nat.le_of_ble_eq_true rfl) (Nat.le_of_ble_eq_true rfl) (Nat.le_of_ble_eq_true rfl) dX5_strokeOf_2 ?_
  obtain ⟨k4, k4e, hf⟩ := zj_sp hf
  have hj5 : ∀ (x3 : Int32), k4 x3 = some ro → zV κ G 18 [(0, .ref (G.1 26)), (1, .int p1)] [.int x3] M F := by
    intro x3 hf
    rw [k4e] at hf
    exact z_iret X (zR_i hf Z) dX5_strokeOf_18
  clear k4e
  refine z_if_eq (tgt := 17) X dX5_strokeOf_5 (by decide) (fun h7 => ?_) (fun h7 => ?_)
  · have hf := zt h7 hf
    refine z_iconst (v := (-1 : Int32)) X dX5_strokeOf_17 (by decide) ?_
    exact hj5 (-1 : Int32) hf
  · have hf := zf h7 hf
    refine z_aload_n X dX5_strokeOf_8 rfl 0 rfl ?_
    refine gf_X5_24 X dX5_strokeOf_9 ?_
    refine z_iload_n X dX5_strokeOf_12 rfl 1 rfl ?_
    obtain ⟨h6, hf⟩ := zc_sp hf
    refine z_iald X zc_31 zl_31 (zin_sp h6) dX5_strokeOf_13 ?_
    refine z_goto (tgt := 18) X dX5_strokeOf_14 (by decide) ?_
    exact hj5 (M 31 p1.toNatClampNeg) hf
set_option maxHeartbeats 4000000 in
set_option maxRecDepth 100000 in
theorem mtX5_dotsTogether (l : Launch) (D : va_G) (G : zG) {p1 : Int32} {M : zMem} {F : Int64} {ro : Int32} (hf : fX5_dotsTogether p1 M = some ro) : zCM l yX5_dotsTogether wX5_dotsTogether { frames := 2, cells := 0, slots := 0, locals := 42 } D G [.ref (G.1 26), .int p1] M F (some (.int ro)) M F := by
  refine zCM.ofV (own := RX5) (cc := cX5_dotsTogether) (maxL := 4) (ret := (some .int)) (lv := [(0, .ref (G.1 26)), (1, .int p1)]) (by decide) rfl rfl (Nat.le_of_ble_eq_true rfl) rfl (fun κ X Z hm hκ1 hκ2 => ?_)
  subst hκ1 hκ2
  unfold fX5_dotsTogether at hf
  refine z_iconst (v := (0 : Int32)) X dX5_dotsTogether_0 (by decide) ?_
  refine z_istore_n (lv' := [(2, .int (0 : Int32)), (0, .ref (G.1 26)), (1, .int p1)]) X dX5_dotsTogether_1 rfl hm (by decide) rfl ?_
  refine z_iconst (v := (0 : Int32)) X dX5_dotsTogether_2 (by decide) ?_
  refine z_istore_n (lv' := [(3, .int (0 : Int32)), (2, .int (0 : Int32)), (0, .ref (G.1 26)), (1, .int p1)]) X dX5_dotsTogether_3 rfl hm (by decide) rfl ?_
  obtain ⟨b8, hb9, hf⟩ := zb1_sp hf
  have hX3 : ∀ t, t = b8 → zu2 (fun (x19 : Int32) (x20 : Int32) => zV κ G 40 [(3, .int x19), (2, .int x20), (0, .ref (G.1 26)), (1, .int p1)] [] M F) t := by
    intro t ht
    subst ht
    obtain ⟨x19, x20⟩ := t
    show zV κ G 40 [(3, .int x19), (2, .int x20), (0, .ref (G.1 26)), (1, .int p1)] [] M F
    refine z_iload_n X dX5_dotsTogether_40 rfl 1 rfl ?_
    exact z_iret X (zR_i hf Z) dX5_dotsTogether_41
  refine zlp_walk (P := zu2 (fun (x1 : Int32) (x2 : Int32) => zV κ G 4 [(3, .int x1), (2, .int x2), (0, .ref (G.1 26)), (1, .int p1)] [] M F)) (fun a21 w7 hf hi5 hx6 => ?_) _ _ hb9
  obtain ⟨x1, x2⟩ := a21
  show zV κ G 4 [(3, .int x1), (2, .int x2), (0, .ref (G.1 26)), (1, .int p1)] [] M F
  replace hf : fX5_dotsTogether_L4 p1 M x1 x2 = some w7 := hf
  unfold fX5_dotsTogether_L4 at hf
  refine z_iload_n X dX5_dotsTogether_4 rfl 0 rfl ?_
  refine z_aload_n X dX5_dotsTogether_5 rfl 2 rfl ?_
  refine gf_X5_27 X dX5_dotsTogether_6 ?_
  refine z_icmp_ge (tgt := 40) X dX5_dotsTogether_9 (by decide) (fun h18 => ?_) (fun h18 => ?_)
  · have hf := zt h18 hf
    have hq := hX3 _ (hx6 _ (Option.some.inj hf).symm)
    exact hq
  · have hf := zf h18 hf
    refine z_iload_n X dX5_dotsTogether_12 rfl 1 rfl ?_
    refine z_aload_n X dX5_dotsTogether_13 rfl 2 rfl ?_
    refine gf_X5_24 X dX5_dotsTogether_14 ?_
    refine z_iload_n X dX5_dotsTogether_17 rfl 0 rfl ?_
    obtain ⟨h10, hf⟩ := zc_sp hf
    refine z_iald X zc_31 zl_31 (zin_sp h10) dX5_dotsTogether_18 ?_
    refine z_iload_n X dX5_dotsTogether_19 rfl 3 rfl ?_
    obtain ⟨k12, k12e, hf⟩ := zj_sp hf
    have hj13 : ∀ (x11 : Int32), k12 x11 = some w7 → zV κ G 32 [(3, .int x1), (2, .int x2), (0, .ref (G.1 26)), (1, .int p1)] [.int x11, .int x2] M F := by
      intro x11 hf
      rw [k12e] at hf
      refine z_iadd X dX5_dotsTogether_32 ?_
      refine z_nmI hf (fun x17 hf => ?_)
      refine z_istore_n (lv' := [(2, .int x17), (3, .int x1), (0, .ref (G.1 26)), (1, .int p1)]) X dX5_dotsTogether_33 rfl hm (by decide) rfl ?_
      refine z_iinc (lv' := [(3, .int (x1 + (1 : Int32))), (2, .int x17), (0, .ref (G.1 26)), (1, .int p1)]) (v := x1 + (1 : Int32)) X dX5_dotsTogether_34 (j := 1) rfl rfl hm (by decide) rfl ?_
      refine z_goto (tgt := 4) X dX5_dotsTogether_37 (by decide) ?_
      have hq := hi5 _ (Option.some.inj hf).symm
      exact hq
    clear k12e
    refine z_icmp_ne (tgt := 31) X dX5_dotsTogether_20 (by decide) (fun h16 => ?_) (fun h16 => ?_)
    · have hf := zf h16 hf
      refine z_iconst (v := (0 : Int32)) X dX5_dotsTogether_31 (by decide) ?_
      exact hj13 (0 : Int32) hf
    · have hf := zt h16 hf
      refine z_aload_n X dX5_dotsTogether_23 rfl 2 rfl ?_
      refine z_iload_n X dX5_dotsTogether_24 rfl 0 rfl ?_
      obtain ⟨r15, h14, hf⟩ := zb1_sp hf
      refine gc_X5_49 (st := [.int x2]) X (mtX5_dotsOf κ.2.1 κ.2.2.2.2.2.2.2.2.2.2.1 G  h14) rfl rfl (Nat.le_of_ble_eq_true rfl) (Nat.le_of_ble_eq_true rfl) (Nat.le_of_ble_eq_true rfl) dX5_dotsTogether_25 ?_
      refine z_goto (tgt := 32) X dX5_dotsTogether_28 (by decide) ?_
      exact hj13 r15 hf
set_option maxHeartbeats 4000000 in
set_option maxRecDepth 100000 in
theorem mtX5_runsTogether (l : Launch) (D : va_G) (G : zG) {p1 : Int32} {M : zMem} {F : Int64} {ro : Int32} (hf : fX5_runsTogether p1 M = some ro) : zCM l yX5_runsTogether wX5_runsTogether { frames := 0, cells := 0, slots := 0, locals := 0 } D G [.ref (G.1 26), .int p1] M F (some (.int ro)) M F := by
  refine zCM.ofV (own := RX5) (cc := cX5_runsTogether) (maxL := 4) (ret := (some .int)) (lv := [(0, .ref (G.1 26)), (1, .int p1)]) (by decide) rfl rfl (Nat.le_of_ble_eq_true rfl) rfl (fun κ X Z hm hκ1 hκ2 => ?_)
  subst hκ1 hκ2
  unfold fX5_runsTogether at hf
  refine z_iconst (v := (0 : Int32)) X dX5_runsTogether_0 (by decide) ?_
  refine z_istore_n (lv' := [(2, .int (0 : Int32)), (0, .ref (G.1 26)), (1, .int p1)]) X dX5_runsTogether_1 rfl hm (by decide) rfl ?_
  refine z_iconst (v := (0 : Int32)) X dX5_runsTogether_2 (by decide) ?_
  refine z_istore_n (lv' := [(3, .int (0 : Int32)), (2, .int (0 : Int32)), (0, .ref (G.1 26)), (1, .int p1)]) X dX5_runsTogether_3 rfl hm (by decide) rfl ?_
  obtain ⟨b8, hb9, hf⟩ := zb1_sp hf
  have hX3 : ∀ t, t = b8 → zu2 (fun (x14 : Int32) (x15 : Int32) => zV κ G 36 [(3, .int x14), (2, .int x15), (0, .ref (G.1 26)), (1, .int p1)] [] M F) t := by
    intro t ht
    subst ht
    obtain ⟨x14, x15⟩ := t
    show zV κ G 36 [(3, .int x14), (2, .int x15), (0, .ref (G.1 26)), (1, .int p1)] [] M F
    refine z_iload_n X dX5_runsTogether_36 rfl 1 rfl ?_
    exact z_iret X (zR_i hf Z) dX5_runsTogether_37
  refine zlp_walk (P := zu2 (fun (x1 : Int32) (x2 : Int32) => zV κ G 4 [(3, .int x1), (2, .int x2), (0, .ref (G.1 26)), (1, .int p1)] [] M F)) (fun a16 w7 hf hi5 hx6 => ?_) _ _ hb9
  obtain ⟨x1, x2⟩ := a16
  show zV κ G 4 [(3, .int x1), (2, .int x2), (0, .ref (G.1 26)), (1, .int p1)] [] M F
  replace hf : fX5_runsTogether_L4 p1 M x1 x2 = some w7 := hf
  unfold fX5_runsTogether_L4 at hf
  refine z_iload_n X dX5_runsTogether_4 rfl 0 rfl ?_
  refine z_aload_n X dX5_runsTogether_5 rfl 2 rfl ?_
  refine gf_X5_27 X dX5_runsTogether_6 ?_
  refine z_icmp_ge (tgt := 36) X dX5_runsTogether_9 (by decide) (fun h13 => ?_) (fun h13 => ?_)
  · have hf := zt h13 hf
    have hq := hX3 _ (hx6 _ (Option.some.inj hf).symm)
    exact hq
  · have hf := zf h13 hf
    refine z_iload_n X dX5_runsTogether_12 rfl 1 rfl ?_
    refine z_aload_n X dX5_runsTogether_13 rfl 2 rfl ?_
    refine gf_X5_24 X dX5_runsTogether_14 ?_
    refine z_iload_n X dX5_runsTogether_17 rfl 0 rfl ?_
    obtain ⟨h10, hf⟩ := zc_sp hf
    refine z_iald X zc_31 zl_31 (zin_sp h10) dX5_runsTogether_18 ?_
    refine z_iload_n X dX5_runsTogether_19 rfl 3 rfl ?_
    have hj : zV κ G 28 [(3, .int x1), (2, .int x2), (0, .ref (G.1 26)), (1, .int p1)] [.int (if (M 31 x1.toNatClampNeg) = p1 then (1 : Int32) else (0 : Int32)), .int x2] M F := by
      refine z_iadd X dX5_runsTogether_28 ?_
      refine z_nmI hf (fun x12 hf => ?_)
      refine z_istore_n (lv' := [(2, .int x12), (3, .int x1), (0, .ref (G.1 26)), (1, .int p1)]) X dX5_runsTogether_29 rfl hm (by decide) rfl ?_
      refine z_iinc (lv' := [(3, .int (x1 + (1 : Int32))), (2, .int x12), (0, .ref (G.1 26)), (1, .int p1)]) (v := x1 + (1 : Int32)) X dX5_runsTogether_30 (j := 1) rfl rfl hm (by decide) rfl ?_
      refine z_goto (tgt := 4) X dX5_runsTogether_33 (by decide) ?_
      have hq := hi5 _ (Option.some.inj hf).symm
      exact hq
    refine z_icmp_ne (tgt := 27) X dX5_runsTogether_20 (by decide) (fun h11 => ?_) (fun h11 => ?_)
    · try simp only [if_neg h11] at hj
      refine z_iconst (v := (0 : Int32)) X dX5_runsTogether_27 (by decide) ?_
      exact hj
    · try simp only [if_pos h11] at hj
      refine z_iconst (v := (1 : Int32)) X dX5_runsTogether_23 (by decide) ?_
      refine z_goto (tgt := 28) X dX5_runsTogether_24 (by decide) ?_
      exact hj
set_option maxHeartbeats 4000000 in
set_option maxRecDepth 100000 in
theorem mtX5_least (l : Launch) (D : va_G) (G : zG) {c1 : Nat} {p2 : Int32} {M : zMem} {F : Int64} {ro : Int32} (c1h : c1 < 77) (c1l : zlay c1 = .inr (.inl (0, 384))) (hf : fX5_least c1 p2 M = some ro) : zCM l yX5_least wX5_least { frames := 1, cells := 0, slots := 0, locals := 24 } D G [.ref (G.1 26), .ref (G.1 c1), .int p2] M F (some (.int ro)) M F := by
  refine zCM.ofV (own := RX5) (cc := cX5_least) (maxL := 5) (ret := (some .int)) (lv := [(0, .ref (G.1 26)), (1, .ref (G.1 c1)), (2, .int p2)]) (by decide) rfl rfl (Nat.le_of_ble_eq_true rfl) rfl (fun κ X Z hm hκ1 hκ2 => ?_)
  subst hκ1 hκ2
  unfold fX5_least at hf
  refine z_bipush (v := (32 : Int32)) X dX5_least_0 (by decide) ?_
  refine z_istore_n (lv' := [(3, .int (32 : Int32)), (0, .ref (G.1 26)), (1, .ref (G.1 c1)), (2, .int p2)]) X dX5_least_2 rfl hm (by decide) rfl ?_
  refine z_iconst (v := (0 : Int32)) X dX5_least_3 (by decide) ?_
  refine z_istore (lv' := [(4, .int (0 : Int32)), (3, .int (32 : Int32)), (0, .ref (G.1 26)), (1, .ref (G.1 c1)), (2, .int p2)]) X dX5_least_4 hm (by decide) rfl ?_
  obtain ⟨b8, hb9, hf⟩ := zb1_sp hf
  have hX3 : ∀ t, t = b8 → zu2 (fun (x18 : Int32) (x19 : Int32) => zV κ G 52 [(4, .int x18), (3, .int x19), (0, .ref (G.1 26)), (1, .ref (G.1 c1)), (2, .int p2)] [] M F) t := by
    intro t ht
    subst ht
    obtain ⟨x18, x19⟩ := t
    show zV κ G 52 [(4, .int x18), (3, .int x19), (0, .ref (G.1 26)), (1, .ref (G.1 c1)), (2, .int p2)] [] M F
    refine z_iload_n X dX5_least_52 rfl 1 rfl ?_
    exact z_iret X (zR_i hf Z) dX5_least_53
  refine zlp_walk (P := zu2 (fun (x1 : Int32) (x2 : Int32) => zV κ G 6 [(4, .int x1), (3, .int x2), (0, .ref (G.1 26)), (1, .ref (G.1 c1)), (2, .int p2)] [] M F)) (fun a20 w7 hf hi5 hx6 => ?_) _ _ hb9
  obtain ⟨x1, x2⟩ := a20
  show zV κ G 6 [(4, .int x1), (3, .int x2), (0, .ref (G.1 26)), (1, .ref (G.1 c1)), (2, .int p2)] [] M F
  replace hf : fX5_least_L6 c1 p2 M x1 x2 = some w7 := hf
  unfold fX5_least_L6 at hf
  refine z_iload X dX5_least_6 0 rfl ?_
  refine z_aload_n X dX5_least_8 rfl 2 rfl ?_
  refine gf_X5_27 X dX5_least_9 ?_
  refine z_icmp_ge (tgt := 52) X dX5_least_12 (by decide) (fun h17 => ?_) (fun h17 => ?_)
  · have hf := zt h17 hf
    have hq := hX3 _ (hx6 _ (Option.some.inj hf).symm)
    exact hq
  · have hf := zf h17 hf
    refine z_iload X dX5_least_15 0 rfl ?_
    refine z_aload_n X dX5_least_17 rfl 3 rfl ?_
    refine z_alen (v := (384 : Int32)) X c1h c1l ⟨_, rfl⟩ (by decide) dX5_least_18 ?_
    refine z_icmp_ge (tgt := 52) X dX5_least_19 (by decide) (fun h16 => ?_) (fun h16 => ?_)
    · have hf := zt h16 hf
      have hq := hX3 _ (hx6 _ (Option.some.inj hf).symm)
      exact hq
    · have hf := zf h16 hf
      refine z_aload_n X dX5_least_22 rfl 2 rfl ?_
      refine gf_X5_24 X dX5_least_23 ?_
      refine z_iload X dX5_least_26 0 rfl ?_
      obtain ⟨h10, hf⟩ := zc_sp hf
      refine z_iald X zc_31 zl_31 (zin_sp h10) dX5_least_28 ?_
      refine z_iload_n X dX5_least_29 rfl 4 rfl ?_
      obtain ⟨k12, k12e, hf⟩ := zj_sp hf
      have hj13 : ∀ (x11 : Int32), k12 x11 = some w7 → zV κ G 45 [(4, .int x1), (3, .int x2), (0, .ref (G.1 26)), (1, .ref (G.1 c1)), (2, .int p2)] [.int x11] M F := by
        intro x11 hf
        rw [k12e] at hf
        refine z_istore_n (lv' := [(3, .int x11), (4, .int x1), (0, .ref (G.1 26)), (1, .ref (G.1 c1)), (2, .int p2)]) X dX5_least_45 rfl hm (by decide) rfl ?_
        refine z_iinc (lv' := [(4, .int (x1 + (1 : Int32))), (3, .int x11), (0, .ref (G.1 26)), (1, .ref (G.1 c1)), (2, .int p2)]) (v := x1 + (1 : Int32)) X dX5_least_46 (j := 1) rfl rfl hm (by decide) rfl ?_
        refine z_goto (tgt := 6) X dX5_least_49 (by decide) ?_
        have hq := hi5 _ (Option.some.inj hf).symm
        exact hq
      clear k12e
      refine z_icmp_ne (tgt := 44) X dX5_least_30 (by decide) (fun h15 => ?_) (fun h15 => ?_)
      · have hf := zf h15 hf
        refine z_iload_n X dX5_least_44 rfl 1 rfl ?_
        exact hj13 x2 hf
      · have hf := zt h15 hf
        refine z_iload_n X dX5_least_33 rfl 1 rfl ?_
        refine z_aload_n X dX5_least_34 rfl 3 rfl ?_
        refine z_iload X dX5_least_35 0 rfl ?_
        obtain ⟨h14, hf⟩ := zc_sp hf
        refine z_iald X c1h c1l (zin_sp h14) dX5_least_37 ?_
        refine z_mmin X (List.mem_cons_of_mem _ zw_24_23) (List.mem_cons_of_mem _ zw_6_3) (List.mem_cons_of_mem _ zw_6_4) (List.mem_cons_of_mem _ zw_6_5) (Nat.le_of_ble_eq_true rfl) (Nat.le_of_ble_eq_true rfl) dX5_least_38 ?_
        refine z_goto (tgt := 45) X dX5_least_41 (by decide) ?_
        exact hj13 (zmmin x2 (M c1 x1.toNatClampNeg)) hf
set_option maxHeartbeats 4000000 in
set_option maxRecDepth 100000 in
theorem mtX5_leastRow (l : Launch) (D : va_G) (G : zG) {p1 : Int32} {M : zMem} {F : Int64} {ro : Int32} (hf : fX5_leastRow p1 M = some ro) : zCM l yX5_leastRow wX5_leastRow { frames := 2, cells := 0, slots := 0, locals := 48 } D G [.ref (G.1 26), .int p1] M F (some (.int ro)) M F := by
  refine zCM.ofV (own := RX5) (cc := cX5_leastRow) (maxL := 2) (ret := (some .int)) (lv := [(0, .ref (G.1 26)), (1, .int p1)]) (by decide) rfl rfl (Nat.le_of_ble_eq_true rfl) rfl (fun κ X Z hm hκ1 hκ2 => ?_)
  subst hκ1 hκ2
  unfold fX5_leastRow at hf
  refine z_aload_n X dX5_leastRow_0 rfl 0 rfl ?_
  refine z_aload_n X dX5_leastRow_1 rfl 0 rfl ?_
  refine gf_X5_11 X dX5_leastRow_2 ?_
  refine z_iload_n X dX5_leastRow_5 rfl 1 rfl ?_
  obtain ⟨r2, h1, hf⟩ := zb1_sp hf
  refine gc_X5_53 (st := []) X (mtX5_least κ.2.1 κ.2.2.2.2.2.2.2.2.2.2.1 G zc_27 zl_27 h1) rfl rfl (Nat.le_of_ble_eq_true rfl) (Nat.le_of_ble_eq_true rfl) (Nat.le_of_ble_eq_true rfl) dX5_leastRow_6 ?_
  exact z_iret X (zR_i hf Z) dX5_leastRow_9
set_option maxHeartbeats 4000000 in
set_option maxRecDepth 100000 in
theorem mtX5_greatest (l : Launch) (D : va_G) (G : zG) {c1 : Nat} {p2 : Int32} {M : zMem} {F : Int64} {ro : Int32} (c1h : c1 < 77) (c1l : zlay c1 = .inr (.inl (0, 384))) (hf : fX5_greatest c1 p2 M = some ro) : zCM l yX5_greatest wX5_greatest { frames := 1, cells := 0, slots := 0, locals := 24 } D G [.ref (G.1 26), .ref (G.1 c1), .int p2] M F (some (.int ro)) M F := by
  refine zCM.ofV (own := RX5) (cc := cX5_greatest) (maxL := 5) (ret := (some .int)) (lv := [(0, .ref (G.1 26)), (1, .ref (G.1 c1)), (2, .int p2)]) (by decide) rfl rfl (Nat.le_of_ble_eq_true rfl) rfl (fun κ X Z hm hκ1 hκ2 => ?_)
  subst hκ1 hκ2
  unfold fX5_greatest at hf
  refine z_iconst (v := (0 : Int32)) X dX5_greatest_0 (by decide) ?_
  refine z_istore_n (lv' := [(3, .int (0 : Int32)), (0, .ref (G.1 26)), (1, .ref (G.1 c1)), (2, .int p2)]) X dX5_greatest_1 rfl hm (by decide) rfl ?_
  refine z_iconst (v := (0 : Int32)) X dX5_greatest_2 (by decide) ?_
  refine z_istore (lv' := [(4, .int (0 : Int32)), (3, .int (0 : Int32)), (0, .ref (G.1 26)), (1, .ref (G.1 c1)), (2, .int p2)]) X dX5_greatest_3 hm (by decide) rfl ?_
  obtain ⟨b8, hb9, hf⟩ := zb1_sp hf
  have hX3 : ∀ t, t = b8 → zu2 (fun (x18 : Int32) (x19 : Int32) => zV κ G 51 [(4, .int x18), (3, .int x19), (0, .ref (G.1 26)), (1, .ref (G.1 c1)), (2, .int p2)] [] M F) t := by
    intro t ht
    subst ht
    obtain ⟨x18, x19⟩ := t
    show zV κ G 51 [(4, .int x18), (3, .int x19), (0, .ref (G.1 26)), (1, .ref (G.1 c1)), (2, .int p2)] [] M F
    refine z_iload_n X dX5_greatest_51 rfl 1 rfl ?_
    exact z_iret X (zR_i hf Z) dX5_greatest_52
  refine zlp_walk (P := zu2 (fun (x1 : Int32) (x2 : Int32) => zV κ G 5 [(4, .int x1), (3, .int x2), (0, .ref (G.1 26)), (1, .ref (G.1 c1)), (2, .int p2)] [] M F)) (fun a20 w7 hf hi5 hx6 => ?_) _ _ hb9
  obtain ⟨x1, x2⟩ := a20
  show zV κ G 5 [(4, .int x1), (3, .int x2), (0, .ref (G.1 26)), (1, .ref (G.1 c1)), (2, .int p2)] [] M F
  replace hf : fX5_greatest_L5 c1 p2 M x1 x2 = some w7 := hf
  unfold fX5_greatest_L5 at hf
  refine z_iload X dX5_greatest_5 0 rfl ?_
  refine z_aload_n X dX5_greatest_7 rfl 2 rfl ?_
  refine gf_X5_27 X dX5_greatest_8 ?_
  refine z_icmp_ge (tgt := 51) X dX5_greatest_11 (by decide) (fun h17 => ?_) (fun h17 => ?_)
  · have hf := zt h17 hf
    have hq := hX3 _ (hx6 _ (Option.some.inj hf).symm)
    exact hq
  · have hf := zf h17 hf
    refine z_iload X dX5_greatest_14 0 rfl ?_
    refine z_aload_n X dX5_greatest_16 rfl 3 rfl ?_
    refine z_alen (v := (384 : Int32)) X c1h c1l ⟨_, rfl⟩ (by decide) dX5_greatest_17 ?_
    refine z_icmp_ge (tgt := 51) X dX5_greatest_18 (by decide) (fun h16 => ?_) (fun h16 => ?_)
    · have hf := zt h16 hf
      have hq := hX3 _ (hx6 _ (Option.some.inj hf).symm)
      exact hq
    · have hf := zf h16 hf
      refine z_aload_n X dX5_greatest_21 rfl 2 rfl ?_
      refine gf_X5_24 X dX5_greatest_22 ?_
      refine z_iload X dX5_greatest_25 0 rfl ?_
      obtain ⟨h10, hf⟩ := zc_sp hf
      refine z_iald X zc_31 zl_31 (zin_sp h10) dX5_greatest_27 ?_
      refine z_iload_n X dX5_greatest_28 rfl 4 rfl ?_
      obtain ⟨k12, k12e, hf⟩ := zj_sp hf
      have hj13 : ∀ (x11 : Int32), k12 x11 = some w7 → zV κ G 44 [(4, .int x1), (3, .int x2), (0, .ref (G.1 26)), (1, .ref (G.1 c1)), (2, .int p2)] [.int x11] M F := by
        intro x11 hf
        rw [k12e] at hf
        refine z_istore_n (lv' := [(3, .int x11), (4, .int x1), (0, .ref (G.1 26)), (1, .ref (G.1 c1)), (2, .int p2)]) X dX5_greatest_44 rfl hm (by decide) rfl ?_
        refine z_iinc (lv' := [(4, .int (x1 + (1 : Int32))), (3, .int x11), (0, .ref (G.1 26)), (1, .ref (G.1 c1)), (2, .int p2)]) (v := x1 + (1 : Int32)) X dX5_greatest_45 (j := 1) rfl rfl hm (by decide) rfl ?_
        refine z_goto (tgt := 5) X dX5_greatest_48 (by decide) ?_
        have hq := hi5 _ (Option.some.inj hf).symm
        exact hq
      clear k12e
      refine z_icmp_ne (tgt := 43) X dX5_greatest_29 (by decide) (fun h15 => ?_) (fun h15 => ?_)
      · have hf := zf h15 hf
        refine z_iload_n X dX5_greatest_43 rfl 1 rfl ?_
        exact hj13 x2 hf
      · have hf := zt h15 hf
        refine z_iload_n X dX5_greatest_32 rfl 1 rfl ?_
        refine z_aload_n X dX5_greatest_33 rfl 3 rfl ?_
        refine z_iload X dX5_greatest_34 0 rfl ?_
        obtain ⟨h14, hf⟩ := zc_sp hf
        refine z_iald X c1h c1l (zin_sp h14) dX5_greatest_36 ?_
        refine z_mmax X (List.mem_cons_of_mem _ zw_24_22) (List.mem_cons_of_mem _ zw_6_7) (List.mem_cons_of_mem _ zw_6_4) (List.mem_cons_of_mem _ zw_6_8) (Nat.le_of_ble_eq_true rfl) (Nat.le_of_ble_eq_true rfl) dX5_greatest_37 ?_
        refine z_goto (tgt := 44) X dX5_greatest_40 (by decide) ?_
        exact hj13 (zmmax x2 (M c1 x1.toNatClampNeg)) hf
set_option maxHeartbeats 4000000 in
set_option maxRecDepth 100000 in
theorem mtX5_greatestRow (l : Launch) (D : va_G) (G : zG) {p1 : Int32} {M : zMem} {F : Int64} {ro : Int32} (hf : fX5_greatestRow p1 M = some ro) : zCM l yX5_greatestRow wX5_greatestRow { frames := 2, cells := 0, slots := 0, locals := 48 } D G [.ref (G.1 26), .int p1] M F (some (.int ro)) M F := by
  refine zCM.ofV (own := RX5) (cc := cX5_greatestRow) (maxL := 2) (ret := (some .int)) (lv := [(0, .ref (G.1 26)), (1, .int p1)]) (by decide) rfl rfl (Nat.le_of_ble_eq_true rfl) rfl (fun κ X Z hm hκ1 hκ2 => ?_)
  subst hκ1 hκ2
  unfold fX5_greatestRow at hf
  refine z_aload_n X dX5_greatestRow_0 rfl 0 rfl ?_
  refine z_aload_n X dX5_greatestRow_1 rfl 0 rfl ?_
  refine gf_X5_11 X dX5_greatestRow_2 ?_
  refine z_iload_n X dX5_greatestRow_5 rfl 1 rfl ?_
  obtain ⟨r2, h1, hf⟩ := zb1_sp hf
  refine gc_X5_57 (st := []) X (mtX5_greatest κ.2.1 κ.2.2.2.2.2.2.2.2.2.2.1 G zc_27 zl_27 h1) rfl rfl (Nat.le_of_ble_eq_true rfl) (Nat.le_of_ble_eq_true rfl) (Nat.le_of_ble_eq_true rfl) dX5_greatestRow_6 ?_
  exact z_iret X (zR_i hf Z) dX5_greatestRow_9
set_option maxHeartbeats 4000000 in
set_option maxRecDepth 100000 in
theorem mtX5_leastColumn (l : Launch) (D : va_G) (G : zG) {p1 : Int32} {M : zMem} {F : Int64} {ro : Int32} (hf : fX5_leastColumn p1 M = some ro) : zCM l yX5_leastColumn wX5_leastColumn { frames := 2, cells := 0, slots := 0, locals := 48 } D G [.ref (G.1 26), .int p1] M F (some (.int ro)) M F := by
  refine zCM.ofV (own := RX5) (cc := cX5_leastColumn) (maxL := 2) (ret := (some .int)) (lv := [(0, .ref (G.1 26)), (1, .int p1)]) (by decide) rfl rfl (Nat.le_of_ble_eq_true rfl) rfl (fun κ X Z hm hκ1 hκ2 => ?_)
  subst hκ1 hκ2
  unfold fX5_leastColumn at hf
  refine z_aload_n X dX5_leastColumn_0 rfl 0 rfl ?_
  refine z_aload_n X dX5_leastColumn_1 rfl 0 rfl ?_
  refine gf_X5_15 X dX5_leastColumn_2 ?_
  refine z_iload_n X dX5_leastColumn_5 rfl 1 rfl ?_
  obtain ⟨r2, h1, hf⟩ := zb1_sp hf
  refine gc_X5_53 (st := []) X (mtX5_least κ.2.1 κ.2.2.2.2.2.2.2.2.2.2.1 G zc_28 zl_28 h1) rfl rfl (Nat.le_of_ble_eq_true rfl) (Nat.le_of_ble_eq_true rfl) (Nat.le_of_ble_eq_true rfl) dX5_leastColumn_6 ?_
  exact z_iret X (zR_i hf Z) dX5_leastColumn_9
set_option maxHeartbeats 4000000 in
set_option maxRecDepth 100000 in
theorem mtX5_greatestColumn (l : Launch) (D : va_G) (G : zG) {p1 : Int32} {M : zMem} {F : Int64} {ro : Int32} (hf : fX5_greatestColumn p1 M = some ro) : zCM l yX5_greatestColumn wX5_greatestColumn { frames := 2, cells := 0, slots := 0, locals := 48 } D G [.ref (G.1 26), .int p1] M F (some (.int ro)) M F := by
  refine zCM.ofV (own := RX5) (cc := cX5_greatestColumn) (maxL := 2) (ret := (some .int)) (lv := [(0, .ref (G.1 26)), (1, .int p1)]) (by decide) rfl rfl (Nat.le_of_ble_eq_true rfl) rfl (fun κ X Z hm hκ1 hκ2 => ?_)
  subst hκ1 hκ2
  unfold fX5_greatestColumn at hf
  refine z_aload_n X dX5_greatestColumn_0 rfl 0 rfl ?_
  refine z_aload_n X dX5_greatestColumn_1 rfl 0 rfl ?_
  refine gf_X5_18 X dX5_greatestColumn_2 ?_
  refine z_iload_n X dX5_greatestColumn_5 rfl 1 rfl ?_
  obtain ⟨r2, h1, hf⟩ := zb1_sp hf
  refine gc_X5_57 (st := []) X (mtX5_greatest κ.2.1 κ.2.2.2.2.2.2.2.2.2.2.1 G zc_29 zl_29 h1) rfl rfl (Nat.le_of_ble_eq_true rfl) (Nat.le_of_ble_eq_true rfl) (Nat.le_of_ble_eq_true rfl) dX5_greatestColumn_6 ?_
  exact z_iret X (zR_i hf Z) dX5_greatestColumn_9
set_option maxHeartbeats 4000000 in
set_option maxRecDepth 100000 in
theorem mtX6_page (l : Launch) (D : va_G) (G : zG) {p1 : Int32} {M : zMem} {F : Int64} {ro : Int32} {Mo : zMem} (hf : fX6_page p1 M = some (ro, Mo)) : zCM l yX6_page wX6_page { frames := 2, cells := 0, slots := 0, locals := 45 } D G [.ref (G.1 0), .int p1] M F (some (.int ro)) Mo F := by
  refine zCM.ofV (own := RX6) (cc := cX6_page) (maxL := 3) (ret := (some .int)) (lv := [(0, .ref (G.1 0)), (1, .int p1)]) (by decide) rfl rfl (Nat.le_of_ble_eq_true rfl) rfl (fun κ X Z hm hκ1 hκ2 => ?_)
  subst hκ1 hκ2
  unfold fX6_page at hf
  refine z_iload_n X dX6_page_0 rfl 1 rfl ?_
  refine z_iconst (v := (1 : Int32)) X dX6_page_1 (by decide) ?_
  refine z_icmp_lt (tgt := 11) X dX6_page_2 (by decide) (fun h6 => ?_) (fun h6 => ?_)
  · have hf := zt h6 hf
    refine z_bipush (v := (-2 : Int32)) X dX6_page_11 (by decide) ?_
    exact z_iret X (zR_iM hf Z) dX6_page_13
  · have hf := zf h6 hf
    refine z_iload_n X dX6_page_5 rfl 1 rfl ?_
    refine z_bipush (v := (24 : Int32)) X dX6_page_6 (by decide) ?_
    refine z_icmp_le (tgt := 14) X dX6_page_8 (by decide) (fun h5 => ?_) (fun h5 => ?_)
    · have hf := zt h5 hf
      refine z_aload_n X dX6_page_14 rfl 0 rfl ?_
      refine gf_X6_12 X dX6_page_15 ?_
      obtain ⟨r2, h1, hf⟩ := zb1_sp hf
      refine gc_X6_54 (st := []) X (mtX4_ink κ.2.1 κ.2.2.2.2.2.2.2.2.2.2.1 G  h1) rfl rfl (Nat.le_of_ble_eq_true rfl) (Nat.le_of_ble_eq_true rfl) (Nat.le_of_ble_eq_true rfl) dX6_page_18 ?_
      refine z_istore_n (lv' := [(2, .int r2), (0, .ref (G.1 0)), (1, .int p1)]) X dX6_page_21 rfl hm (by decide) rfl ?_
      refine z_aload_n X dX6_page_22 rfl 1 rfl ?_
      refine gf_X6_12 X dX6_page_23 ?_
      refine z_iload_n X dX6_page_26 rfl 2 rfl ?_
      obtain ⟨M4, h3, hf⟩ := zb1_sp hf
      refine gc_X6_58 (st := []) X (mtX4_renew κ.2.1 κ.2.2.2.2.2.2.2.2.2.2.1 G  h3) rfl rfl (Nat.le_of_ble_eq_true rfl) (Nat.le_of_ble_eq_true rfl) (Nat.le_of_ble_eq_true rfl) dX6_page_27 ?_
      refine z_iload_n X dX6_page_30 rfl 0 rfl ?_
      exact z_iret X (zR_iM hf Z) dX6_page_31
    · have hf := zf h5 hf
      refine z_bipush (v := (-2 : Int32)) X dX6_page_11 (by decide) ?_
      exact z_iret X (zR_iM hf Z) dX6_page_13
set_option maxHeartbeats 4000000 in
set_option maxRecDepth 100000 in
theorem mtX6_dot (l : Launch) (D : va_G) (G : zG) {p1 : Int32} {p2 : Int32} {p3 : Int32} {M : zMem} {F : Int64} {ro : Int32} {Mo : zMem} (hf : fX6_dot p1 p2 p3 M = some (ro, Mo)) : zCM l yX6_dot wX6_dot { frames := 3, cells := 0, slots := 0, locals := 64 } D G [.ref (G.1 0), .int p1, .int p2, .int p3] M F (some (.int ro)) Mo F := by
  refine zCM.ofV (own := RX6) (cc := cX6_dot) (maxL := 5) (ret := (some .int)) (lv := [(0, .ref (G.1 0)), (1, .int p1), (2, .int p2), (3, .int p3)]) (by decide) rfl rfl (Nat.le_of_ble_eq_true rfl) rfl (fun κ X Z hm hκ1 hκ2 => ?_)
  subst hκ1 hκ2
  unfold fX6_dot at hf
  refine z_aload_n X dX6_dot_0 rfl 0 rfl ?_
  refine gf_X6_12 X dX6_dot_1 ?_
  refine z_iload_n X dX6_dot_4 rfl 1 rfl ?_
  obtain ⟨r2, h1, hf⟩ := zb1_sp hf
  refine gc_X6_62 (st := []) X (mtX4_hasColumn κ.2.1 κ.2.2.2.2.2.2.2.2.2.2.1 G  h1) rfl rfl (Nat.le_of_ble_eq_true rfl) (Nat.le_of_ble_eq_true rfl) (Nat.le_of_ble_eq_true rfl) dX6_dot_5 ?_
  refine z_if_eq (tgt := 18) X dX6_dot_8 (by decide) (fun h26 => ?_) (fun h26 => ?_)
  · have hf := zt h26 hf
    refine z_iconst (v := (-1 : Int32)) X dX6_dot_18 (by decide) ?_
    exact z_iret X (zR_iM hf Z) dX6_dot_19
  · have hf := zf h26 hf
    refine z_iload_n X dX6_dot_11 rfl 2 rfl ?_
    obtain ⟨r4, h3, hf⟩ := zb1_sp hf
    refine gc_X6_66 (st := []) X (mtX6_isRow κ.2.1 κ.2.2.2.2.2.2.2.2.2.2.1 G  h3) rfl rfl (Nat.le_of_ble_eq_true rfl) (Nat.le_of_ble_eq_true rfl) (Nat.le_of_ble_eq_true rfl) dX6_dot_12 ?_
    refine z_if_ne (tgt := 20) X dX6_dot_15 (by decide) (fun h25 => ?_) (fun h25 => ?_)
    · have hf := zf h25 hf
      refine z_iload_n X dX6_dot_20 rfl 3 rfl ?_
      refine z_if_eq (tgt := 32) X dX6_dot_21 (by decide) (fun h24 => ?_) (fun h24 => ?_)
      · have hf := zt h24 hf
        refine z_aload_n X dX6_dot_32 rfl 0 rfl ?_
        refine gf_X6_12 X dX6_dot_33 ?_
        refine z_iload_n X dX6_dot_36 rfl 1 rfl ?_
        refine z_iload_n X dX6_dot_37 rfl 2 rfl ?_
        obtain ⟨r6, h5, hf⟩ := zb1_sp hf
        refine gc_X6_69 (st := []) X (mtX4_inked κ.2.1 κ.2.2.2.2.2.2.2.2.2.2.1 G  h5) rfl rfl (Nat.le_of_ble_eq_true rfl) (Nat.le_of_ble_eq_true rfl) (Nat.le_of_ble_eq_true rfl) dX6_dot_38 ?_
        have hj : zV κ G 49 [(0, .ref (G.1 0)), (1, .int p1), (2, .int p2), (3, .int p3)] [.int (if r6 = 0 then (0 : Int32) else (1 : Int32))] M F := by
          refine z_nmI hf (fun x8 hf => ?_)
          refine z_istore (lv' := [(4, .int x8), (0, .ref (G.1 0)), (1, .int p1), (2, .int p2), (3, .int p3)]) X dX6_dot_49 hm (by decide) rfl ?_
          refine z_aload_n X dX6_dot_51 rfl 1 rfl ?_
          refine gf_X6_12 X dX6_dot_52 ?_
          obtain ⟨M10, h9, hf⟩ := zb1_sp hf
          refine gc_X6_73 (st := []) X (mtX4_forgetMoves κ.2.1 κ.2.2.2.2.2.2.2.2.2.2.1 G  h9) rfl rfl (Nat.le_of_ble_eq_true rfl) (Nat.le_of_ble_eq_true rfl) (Nat.le_of_ble_eq_true rfl) dX6_dot_55 ?_
          refine z_aload_n X dX6_dot_58 rfl 1 rfl ?_
          refine gf_X6_12 X dX6_dot_59 ?_
          refine z_iload_n X dX6_dot_62 rfl 2 rfl ?_
          refine z_iload_n X dX6_dot_63 rfl 3 rfl ?_
          refine z_iload_n X dX6_dot_64 rfl 4 rfl ?_
          refine z_iconst (v := (1 : Int32)) X dX6_dot_65 (by decide) ?_
          have hj : zV κ G 74 [(4, .int x8), (0, .ref (G.1 0)), (1, .int p1), (2, .int p2), (3, .int p3)] [.int (if p3 = (1 : Int32) then (1 : Int32) else (0 : Int32)), .int p2, .int p1, .ref (G.1 1)] M10 F := by
            obtain ⟨M13, h12, hf⟩ := zb1_sp hf
            refine gc_X6_76 (st := []) X (mtX4_draw κ.2.1 κ.2.2.2.2.2.2.2.2.2.2.1 G  h12) rfl rfl (Nat.le_of_ble_eq_true rfl) (Nat.le_of_ble_eq_true rfl) (Nat.le_of_ble_eq_true rfl) dX6_dot_74 ?_
            refine z_iload X dX6_dot_77 0 rfl ?_
            exact z_iret X (zR_iM hf Z) dX6_dot_79
          refine z_icmp_ne (tgt := 73) X dX6_dot_66 (by decide) (fun h11 => ?_) (fun h11 => ?_)
          · try simp only [if_neg h11] at hj
            refine z_iconst (v := (0 : Int32)) X dX6_dot_73 (by decide) ?_
            exact hj
          · try simp only [if_pos h11] at hj
            refine z_iconst (v := (1 : Int32)) X dX6_dot_69 (by decide) ?_
            refine z_goto (tgt := 74) X dX6_dot_70 (by decide) ?_
            exact hj
        refine z_if_eq (tgt := 48) X dX6_dot_41 (by decide) (fun h7 => ?_) (fun h7 => ?_)
        · try simp only [if_pos h7] at hj
          refine z_iconst (v := (0 : Int32)) X dX6_dot_48 (by decide) ?_
          exact hj
        · try simp only [if_neg h7] at hj
          refine z_iconst (v := (1 : Int32)) X dX6_dot_44 (by decide) ?_
          refine z_goto (tgt := 49) X dX6_dot_45 (by decide) ?_
          exact hj
      · have hf := zf h24 hf
        refine z_iload_n X dX6_dot_24 rfl 3 rfl ?_
        refine z_iconst (v := (1 : Int32)) X dX6_dot_25 (by decide) ?_
        refine z_icmp_eq (tgt := 32) X dX6_dot_26 (by decide) (fun h23 => ?_) (fun h23 => ?_)
        · have hf := zt h23 hf
          refine z_aload_n X dX6_dot_32 rfl 0 rfl ?_
          refine gf_X6_12 X dX6_dot_33 ?_
          refine z_iload_n X dX6_dot_36 rfl 1 rfl ?_
          refine z_iload_n X dX6_dot_37 rfl 2 rfl ?_
          obtain ⟨r15, h14, hf⟩ := zb1_sp hf
          refine gc_X6_69 (st := []) X (mtX4_inked κ.2.1 κ.2.2.2.2.2.2.2.2.2.2.1 G  h14) rfl rfl (Nat.le_of_ble_eq_true rfl) (Nat.le_of_ble_eq_true rfl) (Nat.le_of_ble_eq_true rfl) dX6_dot_38 ?_
          have hj : zV κ G 49 [(0, .ref (G.1 0)), (1, .int p1), (2, .int p2), (3, .int p3)] [.int (if r15 = 0 then (0 : Int32) else (1 : Int32))] M F := by
            refine z_nmI hf (fun x17 hf => ?_)
            refine z_istore (lv' := [(4, .int x17), (0, .ref (G.1 0)), (1, .int p1), (2, .int p2), (3, .int p3)]) X dX6_dot_49 hm (by decide) rfl ?_
            refine z_aload_n X dX6_dot_51 rfl 1 rfl ?_
            refine gf_X6_12 X dX6_dot_52 ?_
            obtain ⟨M19, h18, hf⟩ := zb1_sp hf
            refine gc_X6_73 (st := []) X (mtX4_forgetMoves κ.2.1 κ.2.2.2.2.2.2.2.2.2.2.1 G  h18) rfl rfl (Nat.le_of_ble_eq_true rfl) (Nat.le_of_ble_eq_true rfl) (Nat.le_of_ble_eq_true rfl) dX6_dot_55 ?_
            refine z_aload_n X dX6_dot_58 rfl 1 rfl ?_
            refine gf_X6_12 X dX6_dot_59 ?_
            refine z_iload_n X dX6_dot_62 rfl 2 rfl ?_
            refine z_iload_n X dX6_dot_63 rfl 3 rfl ?_
            refine z_iload_n X dX6_dot_64 rfl 4 rfl ?_
            refine z_iconst (v := (1 : Int32)) X dX6_dot_65 (by decide) ?_
            have hj : zV κ G 74 [(4, .int x17), (0, .ref (G.1 0)), (1, .int p1), (2, .int p2), (3, .int p3)] [.int (if p3 = (1 : Int32) then (1 : Int32) else (0 : Int32)), .int p2, .int p1, .ref (G.1 1)] M19 F := by
              obtain ⟨M22, h21, hf⟩ := zb1_sp hf
              refine gc_X6_76 (st := []) X (mtX4_draw κ.2.1 κ.2.2.2.2.2.2.2.2.2.2.1 G  h21) rfl rfl (Nat.le_of_ble_eq_true rfl) (Nat.le_of_ble_eq_true rfl) (Nat.le_of_ble_eq_true rfl) dX6_dot_74 ?_
              refine z_iload X dX6_dot_77 0 rfl ?_
              exact z_iret X (zR_iM hf Z) dX6_dot_79
            refine z_icmp_ne (tgt := 73) X dX6_dot_66 (by decide) (fun h20 => ?_) (fun h20 => ?_)
            · try simp only [if_neg h20] at hj
              refine z_iconst (v := (0 : Int32)) X dX6_dot_73 (by decide) ?_
              exact hj
            · try simp only [if_pos h20] at hj
              refine z_iconst (v := (1 : Int32)) X dX6_dot_69 (by decide) ?_
              refine z_goto (tgt := 74) X dX6_dot_70 (by decide) ?_
              exact hj
          refine z_if_eq (tgt := 48) X dX6_dot_41 (by decide) (fun h16 => ?_) (fun h16 => ?_)
          · try simp only [if_pos h16] at hj
            refine z_iconst (v := (0 : Int32)) X dX6_dot_48 (by decide) ?_
            exact hj
          · try simp only [if_neg h16] at hj
            refine z_iconst (v := (1 : Int32)) X dX6_dot_44 (by decide) ?_
            refine z_goto (tgt := 49) X dX6_dot_45 (by decide) ?_
            exact hj
        · have hf := zf h23 hf
          refine z_bipush (v := (-2 : Int32)) X dX6_dot_29 (by decide) ?_
          exact z_iret X (zR_iM hf Z) dX6_dot_31
    · have hf := zt h25 hf
      refine z_iconst (v := (-1 : Int32)) X dX6_dot_18 (by decide) ?_
      exact z_iret X (zR_iM hf Z) dX6_dot_19
set_option maxHeartbeats 4000000 in
set_option maxRecDepth 100000 in
theorem mtX6_column (l : Launch) (D : va_G) (G : zG) {p1 : Int32} {M : zMem} {F : Int64} {ro : Int64} (hf : fX6_column p1 M = some ro) : zCM l yX6_column wX6_column { frames := 2, cells := 0, slots := 0, locals := 42 } D G [.ref (G.1 0), .int p1] M F (some (.long ro)) M F := by
  refine zCM.ofV (own := RX6) (cc := cX6_column) (maxL := 2) (ret := (some .long)) (lv := [(0, .ref (G.1 0)), (1, .int p1)]) (by decide) rfl rfl (Nat.le_of_ble_eq_true rfl) rfl (fun κ X Z hm hκ1 hκ2 => ?_)
  subst hκ1 hκ2
  unfold fX6_column at hf
  refine z_aload_n X dX6_column_0 rfl 0 rfl ?_
  refine gf_X6_12 X dX6_column_1 ?_
  refine z_iload_n X dX6_column_4 rfl 1 rfl ?_
  obtain ⟨r2, h1, hf⟩ := zb1_sp hf
  refine gc_X6_62 (st := []) X (mtX4_hasColumn κ.2.1 κ.2.2.2.2.2.2.2.2.2.2.1 G  h1) rfl rfl (Nat.le_of_ble_eq_true rfl) (Nat.le_of_ble_eq_true rfl) (Nat.le_of_ble_eq_true rfl) dX6_column_5 ?_
  obtain ⟨k4, k4e, hf⟩ := zj_sp hf
  have hj5 : ∀ (x3 : Int64), k4 x3 = some ro → zV κ G 30 [(0, .ref (G.1 0)), (1, .int p1)] [.long x3] M F := by
    intro x3 hf
    rw [k4e] at hf
    exact z_lret X (zR_l hf Z) dX6_column_30
  clear k4e
  refine z_if_eq (tgt := 27) X dX6_column_8 (by decide) (fun h8 => ?_) (fun h8 => ?_)
  · have hf := zt h8 hf
    refine z_ldc2 (v := (-9223372036854775808 : Int64)) X dX6_column_27 (List.mem_cons_of_mem _ zw_8_22) ?_
    exact hj5 (-9223372036854775808 : Int64) hf
  · have hf := zf h8 hf
    refine z_aload_n X dX6_column_11 rfl 0 rfl ?_
    refine gf_X6_12 X dX6_column_12 ?_
    refine z_iload_n X dX6_column_15 rfl 1 rfl ?_
    obtain ⟨r7, h6, hf⟩ := zb1_sp hf
    refine gc_X6_80 (st := []) X (mtX4_dots κ.2.1 κ.2.2.2.2.2.2.2.2.2.2.1 G  h6) rfl rfl (Nat.le_of_ble_eq_true rfl) (Nat.le_of_ble_eq_true rfl) (Nat.le_of_ble_eq_true rfl) dX6_column_16 ?_
    refine z_i2l X dX6_column_19 ?_
    refine z_ldc2 (v := (4294967295 : Int64)) X dX6_column_20 (List.mem_cons_of_mem _ zw_8_21) ?_
    refine z_land X dX6_column_23 ?_
    refine z_goto (tgt := 30) X dX6_column_24 (by decide) ?_
    exact hj5 (((r7).toInt64) &&& (4294967295 : Int64)) hf
set_option maxHeartbeats 4000000 in
set_option maxRecDepth 100000 in
theorem mtX6_isCard (l : Launch) (D : va_G) (G : zG) {p0 : Int32} {M : zMem} {F : Int64} {ro : Int32} (hf : fX6_isCard p0 = some ro) : zCM l yX6_isCard wX6_isCard { frames := 0, cells := 0, slots := 0, locals := 0 } D G [.int p0] M F (some (.int ro)) M F := by
  refine zCM.ofV (own := RX6) (cc := cX6_isCard) (maxL := 1) (ret := (some .boolean)) (lv := [(0, .int p0)]) (by decide) rfl rfl (Nat.le_of_ble_eq_true rfl) rfl (fun κ X Z hm hκ1 hκ2 => ?_)
  subst hκ1 hκ2
  unfold fX6_isCard at hf
  refine z_iload_n X dX6_isCard_0 rfl 0 rfl ?_
  have hj : zV κ G 14 [(0, .int p0)] [.int (if p0 < 0 then (0 : Int32) else (if (4 : Int32) ≤ p0 then (0 : Int32) else (1 : Int32)))] M F := by
    exact z_zret X (z01_ite (Or.inl rfl) (z01_ite (Or.inl rfl) (Or.inr rfl))) (zR_i hf Z) dX6_isCard_14
  refine z_if_lt (tgt := 13) X dX6_isCard_1 (by decide) (fun h1 => ?_) (fun h1 => ?_)
  · try simp only [if_pos h1] at hj
    refine z_iconst (v := (0 : Int32)) X dX6_isCard_13 (by decide) ?_
    exact hj
  · try simp only [if_neg h1] at hj
    refine z_iload_n X dX6_isCard_4 rfl 0 rfl ?_
    refine z_iconst (v := (4 : Int32)) X dX6_isCard_5 (by decide) ?_
    refine z_icmp_ge (tgt := 13) X dX6_isCard_6 (by decide) (fun h2 => ?_) (fun h2 => ?_)
    · try simp only [if_pos h2] at hj
      refine z_iconst (v := (0 : Int32)) X dX6_isCard_13 (by decide) ?_
      exact hj
    · try simp only [if_neg h2] at hj
      refine z_iconst (v := (1 : Int32)) X dX6_isCard_9 (by decide) ?_
      refine z_goto (tgt := 14) X dX6_isCard_10 (by decide) ?_
      exact hj
set_option maxHeartbeats 4000000 in
set_option maxRecDepth 100000 in
theorem mtX6_failed (l : Launch) (D : va_G) (G : zG) {p1 : Int32} {M : zMem} {F : Int64} {ro : Int32} {Mo : zMem} (hf : fX6_failed p1 M = some (ro, Mo)) : zCM l yX6_failed wX6_failed { frames := 0, cells := 0, slots := 0, locals := 0 } D G [.ref (G.1 0), .int p1] M F (some (.int ro)) Mo F := by
  refine zCM.ofV (own := RX6) (cc := cX6_failed) (maxL := 2) (ret := (some .int)) (lv := [(0, .ref (G.1 0)), (1, .int p1)]) (by decide) rfl rfl (Nat.le_of_ble_eq_true rfl) rfl (fun κ X Z hm hκ1 hκ2 => ?_)
  subst hκ1 hκ2
  unfold fX6_failed at hf
  refine z_aload_n X dX6_failed_0 rfl 0 rfl ?_
  refine z_iload_n X dX6_failed_1 rfl 1 rfl ?_
  refine pf_X6_49 X dX6_failed_2 ?_
  refine z_nmM hf (fun M1 hf => ?_)
  refine z_bipush (v := (-10 : Int32)) X dX6_failed_5 (by decide) ?_
  refine z_iload_n X dX6_failed_7 rfl 1 rfl ?_
  refine z_isub X dX6_failed_8 ?_
  exact z_iret X (zR_iM hf Z) dX6_failed_9
set_option maxHeartbeats 4000000 in
set_option maxRecDepth 100000 in
theorem mtX6_row (l : Launch) (D : va_G) (G : zG) {p1 : Int32} {p2 : Int32} {M : zMem} {F : Int64} {ro : Int32} {Mo : zMem} (hf : fX6_row p1 p2 M = some (ro, Mo)) : zCM l yX6_row wX6_row { frames := 4, cells := 0, slots := 0, locals := 87 } D G [.ref (G.1 0), .int p1, .int p2] M F (some (.int ro)) Mo F := by
  refine zCM.ofV (own := RX6) (cc := cX6_row) (maxL := 5) (ret := (some .int)) (lv := [(0, .ref (G.1 0)), (1, .int p1), (2, .int p2)]) (by decide) rfl rfl (Nat.le_of_ble_eq_true rfl) rfl (fun κ X Z hm hκ1 hκ2 => ?_)
  subst hκ1 hκ2
  unfold fX6_row at hf
  refine z_aload_n X dX6_row_0 rfl 0 rfl ?_
  refine z_iconst (v := (0 : Int32)) X dX6_row_1 (by decide) ?_
  refine pf_X6_49 X dX6_row_2 ?_
  refine z_nmM hf (fun M1 hf => ?_)
  refine z_iload_n X dX6_row_5 rfl 1 rfl ?_
  obtain ⟨r3, h2, hf⟩ := zb1_sp hf
  refine gc_X6_66 (st := []) X (mtX6_isRow κ.2.1 κ.2.2.2.2.2.2.2.2.2.2.1 G  h2) rfl rfl (Nat.le_of_ble_eq_true rfl) (Nat.le_of_ble_eq_true rfl) (Nat.le_of_ble_eq_true rfl) dX6_row_6 ?_
  refine z_if_eq (tgt := 19) X dX6_row_9 (by decide) (fun h44 => ?_) (fun h44 => ?_)
  · have hf := zt h44 hf
    refine z_iconst (v := (-1 : Int32)) X dX6_row_19 (by decide) ?_
    exact z_iret X (zR_iM hf Z) dX6_row_20
  · have hf := zf h44 hf
    refine z_iload_n X dX6_row_12 rfl 2 rfl ?_
    obtain ⟨r5, h4, hf⟩ := zb1_sp hf
    refine gc_X6_88 (st := []) X (mtX6_isCard κ.2.1 κ.2.2.2.2.2.2.2.2.2.2.1 G  h4) rfl rfl (Nat.le_of_ble_eq_true rfl) (Nat.le_of_ble_eq_true rfl) (Nat.le_of_ble_eq_true rfl) dX6_row_13 ?_
    refine z_if_ne (tgt := 21) X dX6_row_16 (by decide) (fun h43 => ?_) (fun h43 => ?_)
    · have hf := zf h43 hf
      refine z_aload_n X dX6_row_21 rfl 0 rfl ?_
      refine gf_X6_20 X dX6_row_22 ?_
      refine z_iload_n X dX6_row_25 rfl 2 rfl ?_
      obtain ⟨h6, hf⟩ := zc_sp hf
      refine z_aald (ty := .object "LevelledInk$Card") X zc_13 zl_13 rfl rfl (zin_sp h6) dX6_row_26 ?_
      refine z_astore_n (lv' := [(3, .ref (G.1 (14 + p2.toNatClampNeg))), (0, .ref (G.1 0)), (1, .int p1), (2, .int p2)]) X dX6_row_27 rfl hm (by decide) rfl ?_
      refine z_aload_n X dX6_row_28 rfl 0 rfl ?_
      obtain ⟨r8, h7, hf⟩ := zb1_sp hf
      refine gc_X6_91 (st := []) X (zin_lt h6) (mtX2_isNothing κ.2.1 κ.2.2.2.2.2.2.2.2.2.2.1 G (zin_lt h6) h7) rfl rfl (Nat.le_of_ble_eq_true rfl) (Nat.le_of_ble_eq_true rfl) (Nat.le_of_ble_eq_true rfl) dX6_row_29 ?_
      refine z_if_eq (tgt := 41) X dX6_row_32 (by decide) (fun h42 => ?_) (fun h42 => ?_)
      · have hf := zt h42 hf
        refine z_aload_n X dX6_row_41 rfl 1 rfl ?_
        refine gf_X6_12 X dX6_row_42 ?_
        obtain ⟨M10, h9, hf⟩ := zb1_sp hf
        refine gc_X6_73 (st := []) X (mtX4_forgetMoves κ.2.1 κ.2.2.2.2.2.2.2.2.2.2.1 G  h9) rfl rfl (Nat.le_of_ble_eq_true rfl) (Nat.le_of_ble_eq_true rfl) (Nat.le_of_ble_eq_true rfl) dX6_row_45 ?_
        refine z_iconst (v := (0 : Int32)) X dX6_row_48 (by decide) ?_
        refine z_istore (lv' := [(4, .int (0 : Int32)), (3, .ref (G.1 (14 + p2.toNatClampNeg))), (0, .ref (G.1 0)), (1, .int p1), (2, .int p2)]) X dX6_row_49 hm (by decide) rfl ?_
        refine z_sub [0, 1, 2, 3] rfl ?_
        obtain ⟨b18, hb19, hf⟩ := zb1_sp hf
        have hX13 : ∀ t, t = b18 → zu2 (fun (x34 : Int32) (M35 : zMem) => zV κ G 102 [(4, .int x34), (3, .ref (G.1 (14 + p2.toNatClampNeg))), (0, .ref (G.1 0)), (1, .int p1)] [] M35 F) t := by
          intro t ht
          subst ht
          obtain ⟨x34, M35⟩ := t
          show zV κ G 102 [(4, .int x34), (3, .ref (G.1 (14 + p2.toNatClampNeg))), (0, .ref (G.1 0)), (1, .int p1)] [] M35 F
          refine z_aload_n X dX6_row_102 rfl 2 rfl ?_
          refine gf_X6_12 X dX6_row_103 ?_
          refine z_iload_n X dX6_row_106 rfl 3 rfl ?_
          obtain ⟨r37, h36, hf⟩ := zb1_sp hf
          refine gc_X6_107 (st := []) X (mtX4_inkOfRow κ.2.1 κ.2.2.2.2.2.2.2.2.2.2.1 G  h36) rfl rfl (Nat.le_of_ble_eq_true rfl) (Nat.le_of_ble_eq_true rfl) (Nat.le_of_ble_eq_true rfl) dX6_row_107 ?_
          exact z_iret X (zR_iM hf Z) dX6_row_110
        refine zlp_walk (P := zu2 (fun (x11 : Int32) (M12 : zMem) => zV κ G 51 [(4, .int x11), (3, .ref (G.1 (14 + p2.toNatClampNeg))), (0, .ref (G.1 0)), (1, .int p1)] [] M12 F)) (fun a38 w17 hf hi15 hx16 => ?_) _ _ hb19
        obtain ⟨x11, M12⟩ := a38
        show zV κ G 51 [(4, .int x11), (3, .ref (G.1 (14 + p2.toNatClampNeg))), (0, .ref (G.1 0)), (1, .int p1)] [] M12 F
        replace hf : fX6_row_L51 p1 p2 x11 M12 = some w17 := hf
        unfold fX6_row_L51 at hf
        refine z_iload X dX6_row_51 0 rfl ?_
        refine z_aload_n X dX6_row_53 rfl 2 rfl ?_
        refine gf_X6_12 X dX6_row_54 ?_
        obtain ⟨r21, h20, hf⟩ := zb1_sp hf
        refine gc_X6_98 (st := [.int x11]) X (mtX4_width κ.2.1 κ.2.2.2.2.2.2.2.2.2.2.1 G  h20) rfl rfl (Nat.le_of_ble_eq_true rfl) (Nat.le_of_ble_eq_true rfl) (Nat.le_of_ble_eq_true rfl) dX6_row_57 ?_
        refine z_icmp_ge (tgt := 102) X dX6_row_60 (by decide) (fun h33 => ?_) (fun h33 => ?_)
        · have hf := zt h33 hf
          have hq := hX13 _ (hx16 _ (Option.some.inj hf).symm)
          exact hq
        · have hf := zf h33 hf
          refine z_aload_n X dX6_row_63 rfl 2 rfl ?_
          refine gf_X6_12 X dX6_row_64 ?_
          refine z_iload X dX6_row_67 0 rfl ?_
          refine z_iload_n X dX6_row_69 rfl 3 rfl ?_
          refine z_aload_n X dX6_row_70 rfl 1 rfl ?_
          refine z_iload X dX6_row_71 0 rfl ?_
          obtain ⟨r23, h22, hf⟩ := zb1_sp hf
          refine gc_X6_101 (st := [.int p1, .int x11, .ref (G.1 1)]) X (zin_lt h6) (mtX2_hasPlace κ.2.1 κ.2.2.2.2.2.2.2.2.2.2.1 G (zin_lt h6) h22) rfl rfl (Nat.le_of_ble_eq_true rfl) (Nat.le_of_ble_eq_true rfl) (Nat.le_of_ble_eq_true rfl) dX6_row_73 ?_
          obtain ⟨k25, k25e, hf⟩ := zj_sp hf
          have hj26 : ∀ (x24 : Int32), k25 x24 = some w17 → zV κ G 93 [(4, .int x11), (3, .ref (G.1 (14 + p2.toNatClampNeg))), (0, .ref (G.1 0)), (1, .int p1)] [.int x24, .int p1, .int x11, .ref (G.1 1)] M12 F := by
            intro x24 hf
            rw [k25e] at hf
            obtain ⟨M32, h31, hf⟩ := zb1_sp hf
            refine gc_X6_76 (st := []) X (mtX4_draw κ.2.1 κ.2.2.2.2.2.2.2.2.2.2.1 G  h31) rfl rfl (Nat.le_of_ble_eq_true rfl) (Nat.le_of_ble_eq_true rfl) (Nat.le_of_ble_eq_true rfl) dX6_row_93 ?_
            refine z_iinc (lv' := [(4, .int (x11 + (1 : Int32))), (3, .ref (G.1 (14 + p2.toNatClampNeg))), (0, .ref (G.1 0)), (1, .int p1)]) (v := x11 + (1 : Int32)) X dX6_row_96 (j := 0) rfl rfl hm (by decide) rfl ?_
            refine z_goto (tgt := 51) X dX6_row_99 (by decide) ?_
            have hq := hi15 _ (Option.some.inj hf).symm
            exact hq
          clear k25e
          refine z_if_eq (tgt := 92) X dX6_row_76 (by decide) (fun h30 => ?_) (fun h30 => ?_)
          · have hf := zt h30 hf
            refine z_iconst (v := (0 : Int32)) X dX6_row_92 (by decide) ?_
            exact hj26 (0 : Int32) hf
          · have hf := zf h30 hf
            refine z_aload_n X dX6_row_79 rfl 1 rfl ?_
            refine z_iload X dX6_row_80 0 rfl ?_
            obtain ⟨r28, h27, hf⟩ := zb1_sp hf
            refine gc_X6_104 (st := [.int p1, .int x11, .ref (G.1 1)]) X (zin_lt h6) (mtX2_number κ.2.1 κ.2.2.2.2.2.2.2.2.2.2.1 G (zin_lt h6) h27) rfl rfl (Nat.le_of_ble_eq_true rfl) (Nat.le_of_ble_eq_true rfl) (Nat.le_of_ble_eq_true rfl) dX6_row_82 ?_
            refine z_if_eq (tgt := 92) X dX6_row_85 (by decide) (fun h29 => ?_) (fun h29 => ?_)
            · have hf := zt h29 hf
              refine z_iconst (v := (0 : Int32)) X dX6_row_92 (by decide) ?_
              exact hj26 (0 : Int32) hf
            · have hf := zf h29 hf
              refine z_iconst (v := (1 : Int32)) X dX6_row_88 (by decide) ?_
              refine z_goto (tgt := 93) X dX6_row_89 (by decide) ?_
              exact hj26 (1 : Int32) hf
      · have hf := zf h42 hf
        refine z_aload_n X dX6_row_35 rfl 1 rfl ?_
        refine z_iconst (v := (1 : Int32)) X dX6_row_36 (by decide) ?_
        obtain ⟨r40, M41, h39, hf⟩ := zb2_sp hf
        refine gc_X6_95 (st := []) X (mtX6_failed κ.2.1 κ.2.2.2.2.2.2.2.2.2.2.1 G  h39) rfl rfl (Nat.le_of_ble_eq_true rfl) (Nat.le_of_ble_eq_true rfl) (Nat.le_of_ble_eq_true rfl) dX6_row_37 ?_
        exact z_iret X (zR_iM hf Z) dX6_row_40
    · have hf := zt h43 hf
      refine z_iconst (v := (-1 : Int32)) X dX6_row_19 (by decide) ?_
      exact z_iret X (zR_iM hf Z) dX6_row_20
set_option maxHeartbeats 4000000 in
set_option maxRecDepth 100000 in
theorem mtX6_take (l : Launch) (D : va_G) (G : zG) {p1 : Int32} {p2 : Int32} {M : zMem} {F : Int64} {ro : Int32} {Mo : zMem} (hf : fX6_take p1 p2 M = some (ro, Mo)) : zCM l yX6_take wX6_take { frames := 4, cells := 0, slots := 0, locals := 87 } D G [.ref (G.1 0), .int p1, .int p2] M F (some (.int ro)) Mo F := by
  refine zCM.ofV (own := RX6) (cc := cX6_take) (maxL := 5) (ret := (some .int)) (lv := [(0, .ref (G.1 0)), (1, .int p1), (2, .int p2)]) (by decide) rfl rfl (Nat.le_of_ble_eq_true rfl) rfl (fun κ X Z hm hκ1 hκ2 => ?_)
  subst hκ1 hκ2
  unfold fX6_take at hf
  refine z_iload_n X dX6_take_0 rfl 1 rfl ?_
  obtain ⟨r2, h1, hf⟩ := zb1_sp hf
  refine gc_X6_88 (st := []) X (mtX6_isCard κ.2.1 κ.2.2.2.2.2.2.2.2.2.2.1 G  h1) rfl rfl (Nat.le_of_ble_eq_true rfl) (Nat.le_of_ble_eq_true rfl) (Nat.le_of_ble_eq_true rfl) dX6_take_1 ?_
  refine z_if_eq (tgt := 14) X dX6_take_4 (by decide) (fun h33 => ?_) (fun h33 => ?_)
  · have hf := zt h33 hf
    refine z_iconst (v := (-1 : Int32)) X dX6_take_14 (by decide) ?_
    exact z_iret X (zR_iM hf Z) dX6_take_15
  · have hf := zf h33 hf
    refine z_iload_n X dX6_take_7 rfl 2 rfl ?_
    obtain ⟨r4, h3, hf⟩ := zb1_sp hf
    refine gc_X6_66 (st := []) X (mtX6_isRow κ.2.1 κ.2.2.2.2.2.2.2.2.2.2.1 G  h3) rfl rfl (Nat.le_of_ble_eq_true rfl) (Nat.le_of_ble_eq_true rfl) (Nat.le_of_ble_eq_true rfl) dX6_take_8 ?_
    refine z_if_ne (tgt := 16) X dX6_take_11 (by decide) (fun h32 => ?_) (fun h32 => ?_)
    · have hf := zf h32 hf
      refine z_aload_n X dX6_take_16 rfl 0 rfl ?_
      refine gf_X6_20 X dX6_take_17 ?_
      refine z_iload_n X dX6_take_20 rfl 1 rfl ?_
      obtain ⟨h5, hf⟩ := zc_sp hf
      refine z_aald (ty := .object "LevelledInk$Card") X zc_13 zl_13 rfl rfl (zin_sp h5) dX6_take_21 ?_
      refine z_astore_n (lv' := [(3, .ref (G.1 (14 + p1.toNatClampNeg))), (0, .ref (G.1 0)), (1, .int p1), (2, .int p2)]) X dX6_take_22 rfl hm (by decide) rfl ?_
      refine z_aload_n X dX6_take_23 rfl 0 rfl ?_
      refine z_iconst (v := (3 : Int32)) X dX6_take_24 (by decide) ?_
      refine z_aload_n X dX6_take_25 rfl 1 rfl ?_
      refine gf_X6_12 X dX6_take_26 ?_
      obtain ⟨r7, h6, hf⟩ := zb1_sp hf
      refine gc_X6_98 (st := [.int (3 : Int32), .ref (G.1 (14 + p1.toNatClampNeg))]) X (mtX4_width κ.2.1 κ.2.2.2.2.2.2.2.2.2.2.1 G  h6) rfl rfl (Nat.le_of_ble_eq_true rfl) (Nat.le_of_ble_eq_true rfl) (Nat.le_of_ble_eq_true rfl) dX6_take_29 ?_
      obtain ⟨M9, h8, hf⟩ := zb1_sp hf
      refine gc_X6_110 (st := []) X (zin_lt h5) (mtX2_renew κ.2.1 κ.2.2.2.2.2.2.2.2.2.2.1 G (zin_lt h5) h8) rfl rfl (Nat.le_of_ble_eq_true rfl) (Nat.le_of_ble_eq_true rfl) (Nat.le_of_ble_eq_true rfl) dX6_take_32 ?_
      refine z_iconst (v := (0 : Int32)) X dX6_take_35 (by decide) ?_
      refine z_istore (lv' := [(4, .int (0 : Int32)), (3, .ref (G.1 (14 + p1.toNatClampNeg))), (0, .ref (G.1 0)), (1, .int p1), (2, .int p2)]) X dX6_take_36 hm (by decide) rfl ?_
      refine z_sub [0, 1, 2, 4] rfl ?_
      obtain ⟨b17, hb18, hf⟩ := zb1_sp hf
      have hX12 : ∀ t, t = b17 → zu2 (fun (x27 : Int32) (M28 : zMem) => zV κ G 80 [(4, .int x27), (3, .ref (G.1 (14 + p1.toNatClampNeg))), (0, .ref (G.1 0)), (2, .int p2)] [] M28 F) t := by
        intro t ht
        subst ht
        obtain ⟨x27, M28⟩ := t
        show zV κ G 80 [(4, .int x27), (3, .ref (G.1 (14 + p1.toNatClampNeg))), (0, .ref (G.1 0)), (2, .int p2)] [] M28 F
        refine z_aload_n X dX6_take_80 rfl 2 rfl ?_
        refine gf_X6_12 X dX6_take_81 ?_
        refine z_iload_n X dX6_take_84 rfl 3 rfl ?_
        obtain ⟨r30, h29, hf⟩ := zb1_sp hf
        refine gc_X6_107 (st := []) X (mtX4_inkOfRow κ.2.1 κ.2.2.2.2.2.2.2.2.2.2.1 G  h29) rfl rfl (Nat.le_of_ble_eq_true rfl) (Nat.le_of_ble_eq_true rfl) (Nat.le_of_ble_eq_true rfl) dX6_take_85 ?_
        exact z_iret X (zR_iM hf Z) dX6_take_88
      refine zlp_walk (P := zu2 (fun (x10 : Int32) (M11 : zMem) => zV κ G 38 [(4, .int x10), (3, .ref (G.1 (14 + p1.toNatClampNeg))), (0, .ref (G.1 0)), (2, .int p2)] [] M11 F)) (fun a31 w16 hf hi14 hx15 => ?_) _ _ hb18
      obtain ⟨x10, M11⟩ := a31
      show zV κ G 38 [(4, .int x10), (3, .ref (G.1 (14 + p1.toNatClampNeg))), (0, .ref (G.1 0)), (2, .int p2)] [] M11 F
      replace hf : fX6_take_L38 p1 p2 x10 M11 = some w16 := hf
      unfold fX6_take_L38 at hf
      refine z_iload X dX6_take_38 0 rfl ?_
      refine z_aload_n X dX6_take_40 rfl 2 rfl ?_
      refine gf_X6_12 X dX6_take_41 ?_
      obtain ⟨r20, h19, hf⟩ := zb1_sp hf
      refine gc_X6_98 (st := [.int x10]) X (mtX4_width κ.2.1 κ.2.2.2.2.2.2.2.2.2.2.1 G  h19) rfl rfl (Nat.le_of_ble_eq_true rfl) (Nat.le_of_ble_eq_true rfl) (Nat.le_of_ble_eq_true rfl) dX6_take_44 ?_
      refine z_icmp_ge (tgt := 80) X dX6_take_47 (by decide) (fun h26 => ?_) (fun h26 => ?_)
      · have hf := zt h26 hf
        have hq := hX12 _ (hx15 _ (Option.some.inj hf).symm)
        exact hq
      · have hf := zf h26 hf
        refine z_aload_n X dX6_take_50 rfl 1 rfl ?_
        refine z_iload X dX6_take_51 0 rfl ?_
        refine z_aload_n X dX6_take_53 rfl 2 rfl ?_
        refine gf_X6_12 X dX6_take_54 ?_
        refine z_iload X dX6_take_57 0 rfl ?_
        refine z_iload_n X dX6_take_59 rfl 3 rfl ?_
        obtain ⟨r22, h21, hf⟩ := zb1_sp hf
        refine gc_X6_69 (st := [.int x10, .ref (G.1 (14 + p1.toNatClampNeg))]) X (mtX4_inked κ.2.1 κ.2.2.2.2.2.2.2.2.2.2.1 G  h21) rfl rfl (Nat.le_of_ble_eq_true rfl) (Nat.le_of_ble_eq_true rfl) (Nat.le_of_ble_eq_true rfl) dX6_take_60 ?_
        have hj : zV κ G 71 [(4, .int x10), (3, .ref (G.1 (14 + p1.toNatClampNeg))), (0, .ref (G.1 0)), (2, .int p2)] [.int (if r22 = 0 then (0 : Int32) else (1 : Int32)), .int x10, .ref (G.1 (14 + p1.toNatClampNeg))] M11 F := by
          obtain ⟨M25, h24, hf⟩ := zb1_sp hf
          refine gc_X6_113 (st := []) X (zin_lt h5) (mtX2_write κ.2.1 κ.2.2.2.2.2.2.2.2.2.2.1 G (zin_lt h5) h24) rfl rfl (Nat.le_of_ble_eq_true rfl) (Nat.le_of_ble_eq_true rfl) (Nat.le_of_ble_eq_true rfl) dX6_take_71 ?_
          refine z_iinc (lv' := [(4, .int (x10 + (1 : Int32))), (3, .ref (G.1 (14 + p1.toNatClampNeg))), (0, .ref (G.1 0)), (2, .int p2)]) (v := x10 + (1 : Int32)) X dX6_take_74 (j := 0) rfl rfl hm (by decide) rfl ?_
          refine z_goto (tgt := 38) X dX6_take_77 (by decide) ?_
          have hq := hi14 _ (Option.some.inj hf).symm
          exact hq
        refine z_if_eq (tgt := 70) X dX6_take_63 (by decide) (fun h23 => ?_) (fun h23 => ?_)
        · try simp only [if_pos h23] at hj
          refine z_iconst (v := (0 : Int32)) X dX6_take_70 (by decide) ?_
          exact hj
        · try simp only [if_neg h23] at hj
          refine z_iconst (v := (1 : Int32)) X dX6_take_66 (by decide) ?_
          refine z_goto (tgt := 71) X dX6_take_67 (by decide) ?_
          exact hj
    · have hf := zt h32 hf
      refine z_iconst (v := (-1 : Int32)) X dX6_take_14 (by decide) ?_
      exact z_iret X (zR_iM hf Z) dX6_take_15
set_option maxHeartbeats 4000000 in
set_option maxRecDepth 100000 in
theorem mtX6_blank (l : Launch) (D : va_G) (G : zG) {p1 : Int32} {p2 : Int32} {p3 : Int32} {M : zMem} {F : Int64} {ro : Int32} {Mo : zMem} (hf : fX6_blank p1 p2 p3 M = some (ro, Mo)) : zCM l yX6_blank wX6_blank { frames := 2, cells := 0, slots := 0, locals := 46 } D G [.ref (G.1 0), .int p1, .int p2, .int p3] M F (some (.int ro)) Mo F := by
  refine zCM.ofV (own := RX6) (cc := cX6_blank) (maxL := 4) (ret := (some .int)) (lv := [(0, .ref (G.1 0)), (1, .int p1), (2, .int p2), (3, .int p3)]) (by decide) rfl rfl (Nat.le_of_ble_eq_true rfl) rfl (fun κ X Z hm hκ1 hκ2 => ?_)
  subst hκ1 hκ2
  unfold fX6_blank at hf
  refine z_aload_n X dX6_blank_0 rfl 0 rfl ?_
  refine z_iconst (v := (0 : Int32)) X dX6_blank_1 (by decide) ?_
  refine pf_X6_49 X dX6_blank_2 ?_
  refine z_nmM hf (fun M1 hf => ?_)
  refine z_iload_n X dX6_blank_5 rfl 1 rfl ?_
  obtain ⟨r3, h2, hf⟩ := zb1_sp hf
  refine gc_X6_88 (st := []) X (mtX6_isCard κ.2.1 κ.2.2.2.2.2.2.2.2.2.2.1 G  h2) rfl rfl (Nat.le_of_ble_eq_true rfl) (Nat.le_of_ble_eq_true rfl) (Nat.le_of_ble_eq_true rfl) dX6_blank_6 ?_
  refine z_if_ne (tgt := 14) X dX6_blank_9 (by decide) (fun h14 => ?_) (fun h14 => ?_)
  · have hf := zf h14 hf
    refine z_iload_n X dX6_blank_14 rfl 2 rfl ?_
    refine z_if_lt (tgt := 29) X dX6_blank_15 (by decide) (fun h13 => ?_) (fun h13 => ?_)
    · have hf := zt h13 hf
      refine z_bipush (v := (-2 : Int32)) X dX6_blank_29 (by decide) ?_
      exact z_iret X (zR_iM hf Z) dX6_blank_31
    · have hf := zf h13 hf
      refine z_iload_n X dX6_blank_18 rfl 2 rfl ?_
      refine z_iconst (v := (3 : Int32)) X dX6_blank_19 (by decide) ?_
      refine z_icmp_gt (tgt := 29) X dX6_blank_20 (by decide) (fun h12 => ?_) (fun h12 => ?_)
      · have hf := zt h12 hf
        refine z_bipush (v := (-2 : Int32)) X dX6_blank_29 (by decide) ?_
        exact z_iret X (zR_iM hf Z) dX6_blank_31
      · have hf := zf h12 hf
        refine z_iload_n X dX6_blank_23 rfl 3 rfl ?_
        refine z_bipush (v := (32 : Int32)) X dX6_blank_24 (by decide) ?_
        refine z_icmp_le (tgt := 32) X dX6_blank_26 (by decide) (fun h11 => ?_) (fun h11 => ?_)
        · have hf := zt h11 hf
          refine z_iload_n X dX6_blank_32 rfl 3 rfl ?_
          refine z_if_ge (tgt := 42) X dX6_blank_33 (by decide) (fun h10 => ?_) (fun h10 => ?_)
          · have hf := zt h10 hf
            refine z_aload_n X dX6_blank_42 rfl 0 rfl ?_
            refine gf_X6_20 X dX6_blank_43 ?_
            refine z_iload_n X dX6_blank_46 rfl 1 rfl ?_
            obtain ⟨h4, hf⟩ := zc_sp hf
            refine z_aald (ty := .object "LevelledInk$Card") X zc_13 zl_13 rfl rfl (zin_sp h4) dX6_blank_47 ?_
            refine z_iload_n X dX6_blank_48 rfl 2 rfl ?_
            refine z_iload_n X dX6_blank_49 rfl 3 rfl ?_
            obtain ⟨M6, h5, hf⟩ := zb1_sp hf
            refine gc_X6_110 (st := []) X (zin_lt h4) (mtX2_renew κ.2.1 κ.2.2.2.2.2.2.2.2.2.2.1 G (zin_lt h4) h5) rfl rfl (Nat.le_of_ble_eq_true rfl) (Nat.le_of_ble_eq_true rfl) (Nat.le_of_ble_eq_true rfl) dX6_blank_50 ?_
            refine z_iconst (v := (1 : Int32)) X dX6_blank_53 (by decide) ?_
            exact z_iret X (zR_iM hf Z) dX6_blank_54
          · have hf := zf h10 hf
            refine z_aload_n X dX6_blank_36 rfl 0 rfl ?_
            refine z_iconst (v := (4 : Int32)) X dX6_blank_37 (by decide) ?_
            obtain ⟨r8, M9, h7, hf⟩ := zb2_sp hf
            refine gc_X6_95 (st := []) X (mtX6_failed κ.2.1 κ.2.2.2.2.2.2.2.2.2.2.1 G  h7) rfl rfl (Nat.le_of_ble_eq_true rfl) (Nat.le_of_ble_eq_true rfl) (Nat.le_of_ble_eq_true rfl) dX6_blank_38 ?_
            exact z_iret X (zR_iM hf Z) dX6_blank_41
        · have hf := zf h11 hf
          refine z_bipush (v := (-2 : Int32)) X dX6_blank_29 (by decide) ?_
          exact z_iret X (zR_iM hf Z) dX6_blank_31
  · have hf := zt h14 hf
    refine z_iconst (v := (-1 : Int32)) X dX6_blank_12 (by decide) ?_
    exact z_iret X (zR_iM hf Z) dX6_blank_13
set_option maxHeartbeats 4000000 in
set_option maxRecDepth 100000 in
theorem mtX6_put (l : Launch) (D : va_G) (G : zG) {p1 : Int32} {p2 : Int32} {p3 : Int32} {M : zMem} {F : Int64} {ro : Int32} {Mo : zMem} (hf : fX6_put p1 p2 p3 M = some (ro, Mo)) : zCM l yX6_put wX6_put { frames := 2, cells := 0, slots := 0, locals := 43 } D G [.ref (G.1 0), .int p1, .int p2, .int p3] M F (some (.int ro)) Mo F := by
  refine zCM.ofV (own := RX6) (cc := cX6_put) (maxL := 5) (ret := (some .int)) (lv := [(0, .ref (G.1 0)), (1, .int p1), (2, .int p2), (3, .int p3)]) (by decide) rfl rfl (Nat.le_of_ble_eq_true rfl) rfl (fun κ X Z hm hκ1 hκ2 => ?_)
  subst hκ1 hκ2
  unfold fX6_put at hf
  refine z_aload_n X dX6_put_0 rfl 0 rfl ?_
  refine z_iconst (v := (0 : Int32)) X dX6_put_1 (by decide) ?_
  refine pf_X6_49 X dX6_put_2 ?_
  refine z_nmM hf (fun M1 hf => ?_)
  refine z_iload_n X dX6_put_5 rfl 1 rfl ?_
  obtain ⟨r3, h2, hf⟩ := zb1_sp hf
  refine gc_X6_88 (st := []) X (mtX6_isCard κ.2.1 κ.2.2.2.2.2.2.2.2.2.2.1 G  h2) rfl rfl (Nat.le_of_ble_eq_true rfl) (Nat.le_of_ble_eq_true rfl) (Nat.le_of_ble_eq_true rfl) dX6_put_6 ?_
  refine z_if_ne (tgt := 14) X dX6_put_9 (by decide) (fun h14 => ?_) (fun h14 => ?_)
  · have hf := zf h14 hf
    refine z_aload_n X dX6_put_14 rfl 0 rfl ?_
    refine gf_X6_20 X dX6_put_15 ?_
    refine z_iload_n X dX6_put_18 rfl 1 rfl ?_
    obtain ⟨h4, hf⟩ := zc_sp hf
    refine z_aald (ty := .object "LevelledInk$Card") X zc_13 zl_13 rfl rfl (zin_sp h4) dX6_put_19 ?_
    refine z_iload_n X dX6_put_20 rfl 2 rfl ?_
    obtain ⟨r6, h5, hf⟩ := zb1_sp hf
    refine gc_X6_116 (st := []) X (zin_lt h4) (mtX2_faultAt κ.2.1 κ.2.2.2.2.2.2.2.2.2.2.1 G (zin_lt h4) h5) rfl rfl (Nat.le_of_ble_eq_true rfl) (Nat.le_of_ble_eq_true rfl) (Nat.le_of_ble_eq_true rfl) dX6_put_21 ?_
    refine z_istore (lv' := [(4, .int r6), (0, .ref (G.1 0)), (1, .int p1), (2, .int p2), (3, .int p3)]) X dX6_put_24 hm (by decide) rfl ?_
    refine z_iload X dX6_put_26 0 rfl ?_
    refine z_if_eq (tgt := 38) X dX6_put_28 (by decide) (fun h13 => ?_) (fun h13 => ?_)
    · have hf := zt h13 hf
      refine z_aload_n X dX6_put_38 rfl 1 rfl ?_
      refine gf_X6_20 X dX6_put_39 ?_
      refine z_iload_n X dX6_put_42 rfl 2 rfl ?_
      obtain ⟨h7, hf⟩ := zc_sp hf
      refine z_aald (ty := .object "LevelledInk$Card") X zc_13 zl_13 rfl rfl (zin_sp h7) dX6_put_43 ?_
      refine z_iload_n X dX6_put_44 rfl 3 rfl ?_
      refine z_iload_n X dX6_put_45 rfl 4 rfl ?_
      obtain ⟨M9, h8, hf⟩ := zb1_sp hf
      refine gc_X6_113 (st := []) X (zin_lt h7) (mtX2_write κ.2.1 κ.2.2.2.2.2.2.2.2.2.2.1 G (zin_lt h7) h8) rfl rfl (Nat.le_of_ble_eq_true rfl) (Nat.le_of_ble_eq_true rfl) (Nat.le_of_ble_eq_true rfl) dX6_put_46 ?_
      refine z_iconst (v := (1 : Int32)) X dX6_put_49 (by decide) ?_
      exact z_iret X (zR_iM hf Z) dX6_put_50
    · have hf := zf h13 hf
      refine z_aload_n X dX6_put_31 rfl 1 rfl ?_
      refine z_iload X dX6_put_32 0 rfl ?_
      obtain ⟨r11, M12, h10, hf⟩ := zb2_sp hf
      refine gc_X6_95 (st := []) X (mtX6_failed κ.2.1 κ.2.2.2.2.2.2.2.2.2.2.1 G  h10) rfl rfl (Nat.le_of_ble_eq_true rfl) (Nat.le_of_ble_eq_true rfl) (Nat.le_of_ble_eq_true rfl) dX6_put_34 ?_
      exact z_iret X (zR_iM hf Z) dX6_put_37
  · have hf := zt h14 hf
    refine z_iconst (v := (-1 : Int32)) X dX6_put_12 (by decide) ?_
    exact z_iret X (zR_iM hf Z) dX6_put_13
set_option maxHeartbeats 4000000 in
set_option maxRecDepth 100000 in
theorem mtX6_get (l : Launch) (D : va_G) (G : zG) {p1 : Int32} {p2 : Int32} {M : zMem} {F : Int64} {ro : Int64} {Mo : zMem} (hf : fX6_get p1 p2 M = some (ro, Mo)) : zCM l yX6_get wX6_get { frames := 2, cells := 0, slots := 0, locals := 42 } D G [.ref (G.1 0), .int p1, .int p2] M F (some (.long ro)) Mo F := by
  refine zCM.ofV (own := RX6) (cc := cX6_get) (maxL := 3) (ret := (some .long)) (lv := [(0, .ref (G.1 0)), (1, .int p1), (2, .int p2)]) (by decide) rfl rfl (Nat.le_of_ble_eq_true rfl) rfl (fun κ X Z hm hκ1 hκ2 => ?_)
  subst hκ1 hκ2
  unfold fX6_get at hf
  refine z_aload_n X dX6_get_0 rfl 0 rfl ?_
  refine z_iconst (v := (0 : Int32)) X dX6_get_1 (by decide) ?_
  refine pf_X6_49 X dX6_get_2 ?_
  refine z_nmM hf (fun M1 hf => ?_)
  refine z_iload_n X dX6_get_5 rfl 1 rfl ?_
  obtain ⟨r3, h2, hf⟩ := zb1_sp hf
  refine gc_X6_88 (st := []) X (mtX6_isCard κ.2.1 κ.2.2.2.2.2.2.2.2.2.2.1 G  h2) rfl rfl (Nat.le_of_ble_eq_true rfl) (Nat.le_of_ble_eq_true rfl) (Nat.le_of_ble_eq_true rfl) dX6_get_6 ?_
  refine z_if_ne (tgt := 16) X dX6_get_9 (by decide) (fun h15 => ?_) (fun h15 => ?_)
  · have hf := zf h15 hf
    refine z_aload_n X dX6_get_16 rfl 0 rfl ?_
    refine z_aload_n X dX6_get_17 rfl 0 rfl ?_
    refine gf_X6_20 X dX6_get_18 ?_
    refine z_iload_n X dX6_get_21 rfl 1 rfl ?_
    obtain ⟨h4, hf⟩ := zc_sp hf
    refine z_aald (ty := .object "LevelledInk$Card") X zc_13 zl_13 rfl rfl (zin_sp h4) dX6_get_22 ?_
    refine z_iload_n X dX6_get_23 rfl 2 rfl ?_
    obtain ⟨r6, h5, hf⟩ := zb1_sp hf
    refine gc_X6_116 (st := [.ref (G.1 0)]) X (zin_lt h4) (mtX2_faultAt κ.2.1 κ.2.2.2.2.2.2.2.2.2.2.1 G (zin_lt h4) h5) rfl rfl (Nat.le_of_ble_eq_true rfl) (Nat.le_of_ble_eq_true rfl) (Nat.le_of_ble_eq_true rfl) dX6_get_24 ?_
    refine pf_X6_49 X dX6_get_27 ?_
    refine z_nmM hf (fun M7 hf => ?_)
    refine z_aload_n X dX6_get_30 rfl 0 rfl ?_
    refine gf_X6_49 X dX6_get_31 ?_
    obtain ⟨k9, k9e, hf⟩ := zj_sp hf
    have hj10 : ∀ (x8 : Int64), k9 x8 = some (ro, Mo) → zV κ G 54 [(0, .ref (G.1 0)), (1, .int p1), (2, .int p2)] [.long x8] M7 F := by
      intro x8 hf
      rw [k9e] at hf
      exact z_lret X (zR_lM hf Z) dX6_get_54
    clear k9e
    refine z_if_ne (tgt := 51) X dX6_get_34 (by decide) (fun h14 => ?_) (fun h14 => ?_)
    · have hf := zf h14 hf
      refine z_ldc2 (v := (-9223372036854775808 : Int64)) X dX6_get_51 (List.mem_cons_of_mem _ zw_8_22) ?_
      exact hj10 (-9223372036854775808 : Int64) hf
    · have hf := zt h14 hf
      refine z_aload_n X dX6_get_37 rfl 0 rfl ?_
      refine gf_X6_20 X dX6_get_38 ?_
      refine z_iload_n X dX6_get_41 rfl 1 rfl ?_
      obtain ⟨h11, hf⟩ := zc_sp hf
      refine z_aald (ty := .object "LevelledInk$Card") X zc_13 zl_13 rfl rfl (zin_sp h11) dX6_get_42 ?_
      refine z_iload_n X dX6_get_43 rfl 2 rfl ?_
      obtain ⟨r13, h12, hf⟩ := zb1_sp hf
      refine gc_X6_104 (st := []) X (zin_lt h11) (mtX2_number κ.2.1 κ.2.2.2.2.2.2.2.2.2.2.1 G (zin_lt h11) h12) rfl rfl (Nat.le_of_ble_eq_true rfl) (Nat.le_of_ble_eq_true rfl) (Nat.le_of_ble_eq_true rfl) dX6_get_44 ?_
      refine z_i2l X dX6_get_47 ?_
      refine z_goto (tgt := 54) X dX6_get_48 (by decide) ?_
      exact hj10 ((r13).toInt64) hf
  · have hf := zt h15 hf
    refine z_ldc2 (v := (-9223372036854775808 : Int64)) X dX6_get_12 (List.mem_cons_of_mem _ zw_8_22) ?_
    exact z_lret X (zR_lM hf Z) dX6_get_15
set_option maxHeartbeats 4000000 in
set_option maxRecDepth 100000 in
theorem mtX6_copy (l : Launch) (D : va_G) (G : zG) {p1 : Int32} {p2 : Int32} {p3 : Int32} {p4 : Int32} {p5 : Int32} {M : zMem} {F : Int64} {ro : Int32} {Mo : zMem} (hf : fX6_copy p1 p2 p3 p4 p5 M = some (ro, Mo)) : zCM l yX6_copy wX6_copy { frames := 2, cells := 0, slots := 0, locals := 64 } D G [.ref (G.1 0), .int p1, .int p2, .int p3, .int p4, .int p5] M F (some (.int ro)) Mo F := by
  refine zCM.ofV (own := RX6) (cc := cX6_copy) (maxL := 7) (ret := (some .int)) (lv := [(0, .ref (G.1 0)), (1, .int p1), (2, .int p2), (3, .int p3), (4, .int p4), (5, .int p5)]) (by decide) rfl rfl (Nat.le_of_ble_eq_true rfl) rfl (fun κ X Z hm hκ1 hκ2 => ?_)
  subst hκ1 hκ2
  unfold fX6_copy at hf
  refine z_aload_n X dX6_copy_0 rfl 0 rfl ?_
  refine z_iconst (v := (0 : Int32)) X dX6_copy_1 (by decide) ?_
  refine pf_X6_49 X dX6_copy_2 ?_
  refine z_nmM hf (fun M1 hf => ?_)
  refine z_iload_n X dX6_copy_5 rfl 1 rfl ?_
  obtain ⟨r3, h2, hf⟩ := zb1_sp hf
  refine gc_X6_88 (st := []) X (mtX6_isCard κ.2.1 κ.2.2.2.2.2.2.2.2.2.2.1 G  h2) rfl rfl (Nat.le_of_ble_eq_true rfl) (Nat.le_of_ble_eq_true rfl) (Nat.le_of_ble_eq_true rfl) dX6_copy_6 ?_
  refine z_if_eq (tgt := 19) X dX6_copy_9 (by decide) (fun h19 => ?_) (fun h19 => ?_)
  · have hf := zt h19 hf
    refine z_iconst (v := (-1 : Int32)) X dX6_copy_19 (by decide) ?_
    exact z_iret X (zR_iM hf Z) dX6_copy_20
  · have hf := zf h19 hf
    refine z_iload_n X dX6_copy_12 rfl 3 rfl ?_
    obtain ⟨r5, h4, hf⟩ := zb1_sp hf
    refine gc_X6_88 (st := []) X (mtX6_isCard κ.2.1 κ.2.2.2.2.2.2.2.2.2.2.1 G  h4) rfl rfl (Nat.le_of_ble_eq_true rfl) (Nat.le_of_ble_eq_true rfl) (Nat.le_of_ble_eq_true rfl) dX6_copy_13 ?_
    refine z_if_ne (tgt := 21) X dX6_copy_16 (by decide) (fun h18 => ?_) (fun h18 => ?_)
    · have hf := zf h18 hf
      refine z_aload_n X dX6_copy_21 rfl 0 rfl ?_
      refine gf_X6_20 X dX6_copy_22 ?_
      refine z_iload_n X dX6_copy_25 rfl 1 rfl ?_
      obtain ⟨h6, hf⟩ := zc_sp hf
      refine z_aald (ty := .object "LevelledInk$Card") X zc_13 zl_13 rfl rfl (zin_sp h6) dX6_copy_26 ?_
      refine z_iload_n X dX6_copy_27 rfl 2 rfl ?_
      refine z_aload_n X dX6_copy_28 rfl 0 rfl ?_
      refine gf_X6_20 X dX6_copy_29 ?_
      refine z_iload_n X dX6_copy_32 rfl 3 rfl ?_
      obtain ⟨h7, hf⟩ := zc_sp hf
      refine z_aald (ty := .object "LevelledInk$Card") X zc_13 zl_13 rfl rfl (zin_sp h7) dX6_copy_33 ?_
      refine z_iload X dX6_copy_34 4 rfl ?_
      refine z_iload X dX6_copy_36 5 rfl ?_
      obtain ⟨r9, h8, hf⟩ := zb1_sp hf
      refine gc_X6_119 (st := []) X (zin_lt h6) (mtX2_faultOfCopy κ.2.1 κ.2.2.2.2.2.2.2.2.2.2.1 G (zin_lt h6) (zin_lt h7) h8) rfl rfl (Nat.le_of_ble_eq_true rfl) (Nat.le_of_ble_eq_true rfl) (Nat.le_of_ble_eq_true rfl) dX6_copy_38 ?_
      refine z_istore (lv' := [(6, .int r9), (0, .ref (G.1 0)), (1, .int p1), (2, .int p2), (3, .int p3), (4, .int p4), (5, .int p5)]) X dX6_copy_41 hm (by decide) rfl ?_
      refine z_iload X dX6_copy_43 0 rfl ?_
      refine z_if_eq (tgt := 55) X dX6_copy_45 (by decide) (fun h17 => ?_) (fun h17 => ?_)
      · have hf := zt h17 hf
        refine z_aload_n X dX6_copy_55 rfl 1 rfl ?_
        refine gf_X6_20 X dX6_copy_56 ?_
        refine z_iload_n X dX6_copy_59 rfl 2 rfl ?_
        obtain ⟨h10, hf⟩ := zc_sp hf
        refine z_aald (ty := .object "LevelledInk$Card") X zc_13 zl_13 rfl rfl (zin_sp h10) dX6_copy_60 ?_
        refine z_iload_n X dX6_copy_61 rfl 3 rfl ?_
        refine z_aload_n X dX6_copy_62 rfl 1 rfl ?_
        refine gf_X6_20 X dX6_copy_63 ?_
        refine z_iload_n X dX6_copy_66 rfl 4 rfl ?_
        obtain ⟨h11, hf⟩ := zc_sp hf
        refine z_aald (ty := .object "LevelledInk$Card") X zc_13 zl_13 rfl rfl (zin_sp h11) dX6_copy_67 ?_
        refine z_iload X dX6_copy_68 5 rfl ?_
        refine z_iload X dX6_copy_70 6 rfl ?_
        obtain ⟨M13, h12, hf⟩ := zb1_sp hf
        refine gc_X6_123 (st := []) X (zin_lt h10) (mtX2_copyTo κ.2.1 κ.2.2.2.2.2.2.2.2.2.2.1 G (zin_lt h10) (zin_lt h11) h12) rfl rfl (Nat.le_of_ble_eq_true rfl) (Nat.le_of_ble_eq_true rfl) (Nat.le_of_ble_eq_true rfl) dX6_copy_72 ?_
        refine z_iload X dX6_copy_75 6 rfl ?_
        exact z_iret X (zR_iM hf Z) dX6_copy_77
      · have hf := zf h17 hf
        refine z_aload_n X dX6_copy_48 rfl 1 rfl ?_
        refine z_iload X dX6_copy_49 0 rfl ?_
        obtain ⟨r15, M16, h14, hf⟩ := zb2_sp hf
        refine gc_X6_95 (st := []) X (mtX6_failed κ.2.1 κ.2.2.2.2.2.2.2.2.2.2.1 G  h14) rfl rfl (Nat.le_of_ble_eq_true rfl) (Nat.le_of_ble_eq_true rfl) (Nat.le_of_ble_eq_true rfl) dX6_copy_51 ?_
        exact z_iret X (zR_iM hf Z) dX6_copy_54
    · have hf := zt h18 hf
      refine z_iconst (v := (-1 : Int32)) X dX6_copy_19 (by decide) ?_
      exact z_iret X (zR_iM hf Z) dX6_copy_20
set_option maxHeartbeats 4000000 in
set_option maxRecDepth 100000 in
theorem mtX6_lose (l : Launch) (D : va_G) (G : zG) {p1 : Int32} {M : zMem} {F : Int64} {ro : Int32} {Mo : zMem} (hf : fX6_lose p1 M = some (ro, Mo)) : zCM l yX6_lose wX6_lose { frames := 1, cells := 0, slots := 0, locals := 20 } D G [.ref (G.1 0), .int p1] M F (some (.int ro)) Mo F := by
  refine zCM.ofV (own := RX6) (cc := cX6_lose) (maxL := 3) (ret := (some .int)) (lv := [(0, .ref (G.1 0)), (1, .int p1)]) (by decide) rfl rfl (Nat.le_of_ble_eq_true rfl) rfl (fun κ X Z hm hκ1 hκ2 => ?_)
  subst hκ1 hκ2
  unfold fX6_lose at hf
  refine z_iload_n X dX6_lose_0 rfl 1 rfl ?_
  obtain ⟨r2, h1, hf⟩ := zb1_sp hf
  refine gc_X6_88 (st := []) X (mtX6_isCard κ.2.1 κ.2.2.2.2.2.2.2.2.2.2.1 G  h1) rfl rfl (Nat.le_of_ble_eq_true rfl) (Nat.le_of_ble_eq_true rfl) (Nat.le_of_ble_eq_true rfl) dX6_lose_1 ?_
  refine z_if_ne (tgt := 9) X dX6_lose_4 (by decide) (fun h11 => ?_) (fun h11 => ?_)
  · have hf := zf h11 hf
    refine z_aload_n X dX6_lose_9 rfl 0 rfl ?_
    refine gf_X6_20 X dX6_lose_10 ?_
    refine z_iload_n X dX6_lose_13 rfl 1 rfl ?_
    obtain ⟨h3, hf⟩ := zc_sp hf
    refine z_aald (ty := .object "LevelledInk$Card") X zc_13 zl_13 rfl rfl (zin_sp h3) dX6_lose_14 ?_
    obtain ⟨r5, h4, hf⟩ := zb1_sp hf
    refine gc_X6_91 (st := []) X (zin_lt h3) (mtX2_isNothing κ.2.1 κ.2.2.2.2.2.2.2.2.2.2.1 G (zin_lt h3) h4) rfl rfl (Nat.le_of_ble_eq_true rfl) (Nat.le_of_ble_eq_true rfl) (Nat.le_of_ble_eq_true rfl) dX6_lose_15 ?_
    have hj : zV κ G 26 [(0, .ref (G.1 0)), (1, .int p1)] [.int (if r5 = 0 then (1 : Int32) else (0 : Int32))] M F := by
      refine z_nmI hf (fun x7 hf => ?_)
      refine z_istore_n (lv' := [(2, .int x7), (0, .ref (G.1 0)), (1, .int p1)]) X dX6_lose_26 rfl hm (by decide) rfl ?_
      refine z_aload_n X dX6_lose_27 rfl 1 rfl ?_
      refine gf_X6_20 X dX6_lose_28 ?_
      refine z_iload_n X dX6_lose_31 rfl 2 rfl ?_
      obtain ⟨h8, hf⟩ := zc_sp hf
      refine z_aald (ty := .object "LevelledInk$Card") X zc_13 zl_13 rfl rfl (zin_sp h8) dX6_lose_32 ?_
      obtain ⟨M10, h9, hf⟩ := zb1_sp hf
      refine gc_X6_127 (st := []) X (zin_lt h8) (mtX2_drop κ.2.1 κ.2.2.2.2.2.2.2.2.2.2.1 G (zin_lt h8) h9) rfl rfl (Nat.le_of_ble_eq_true rfl) (Nat.le_of_ble_eq_true rfl) (Nat.le_of_ble_eq_true rfl) dX6_lose_33 ?_
      refine z_iload_n X dX6_lose_36 rfl 0 rfl ?_
      exact z_iret X (zR_iM hf Z) dX6_lose_37
    refine z_if_eq (tgt := 25) X dX6_lose_18 (by decide) (fun h6 => ?_) (fun h6 => ?_)
    · try simp only [if_pos h6] at hj
      refine z_iconst (v := (1 : Int32)) X dX6_lose_25 (by decide) ?_
      exact hj
    · try simp only [if_neg h6] at hj
      refine z_iconst (v := (0 : Int32)) X dX6_lose_21 (by decide) ?_
      refine z_goto (tgt := 26) X dX6_lose_22 (by decide) ?_
      exact hj
  · have hf := zt h11 hf
    refine z_iconst (v := (-1 : Int32)) X dX6_lose_7 (by decide) ?_
    exact z_iret X (zR_iM hf Z) dX6_lose_8
set_option maxHeartbeats 4000000 in
set_option maxRecDepth 100000 in
theorem mtX6_isAxis (l : Launch) (D : va_G) (G : zG) {p0 : Int32} {M : zMem} {F : Int64} {ro : Int32} (hf : fX6_isAxis p0 = some ro) : zCM l yX6_isAxis wX6_isAxis { frames := 0, cells := 0, slots := 0, locals := 0 } D G [.int p0] M F (some (.int ro)) M F := by
  refine zCM.ofV (own := RX6) (cc := cX6_isAxis) (maxL := 1) (ret := (some .boolean)) (lv := [(0, .int p0)]) (by decide) rfl rfl (Nat.le_of_ble_eq_true rfl) rfl (fun κ X Z hm hκ1 hκ2 => ?_)
  subst hκ1 hκ2
  unfold fX6_isAxis at hf
  refine z_iload_n X dX6_isAxis_0 rfl 0 rfl ?_
  have hj : zV κ G 14 [(0, .int p0)] [.int (if p0 = 0 then (1 : Int32) else (if p0 = (1 : Int32) then (1 : Int32) else (0 : Int32)))] M F := by
    exact z_zret X (z01_ite (Or.inr rfl) (z01_ite (Or.inr rfl) (Or.inl rfl))) (zR_i hf Z) dX6_isAxis_14
  refine z_if_eq (tgt := 9) X dX6_isAxis_1 (by decide) (fun h1 => ?_) (fun h1 => ?_)
  · try simp only [if_pos h1] at hj
    refine z_iconst (v := (1 : Int32)) X dX6_isAxis_9 (by decide) ?_
    refine z_goto (tgt := 14) X dX6_isAxis_10 (by decide) ?_
    exact hj
  · try simp only [if_neg h1] at hj
    refine z_iload_n X dX6_isAxis_4 rfl 0 rfl ?_
    refine z_iconst (v := (1 : Int32)) X dX6_isAxis_5 (by decide) ?_
    refine z_icmp_ne (tgt := 13) X dX6_isAxis_6 (by decide) (fun h2 => ?_) (fun h2 => ?_)
    · try simp only [if_neg h2] at hj
      refine z_iconst (v := (0 : Int32)) X dX6_isAxis_13 (by decide) ?_
      exact hj
    · try simp only [if_pos h2] at hj
      refine z_iconst (v := (1 : Int32)) X dX6_isAxis_9 (by decide) ?_
      refine z_goto (tgt := 14) X dX6_isAxis_10 (by decide) ?_
      exact hj
set_option maxHeartbeats 4000000 in
set_option maxRecDepth 100000 in
theorem mtX6_shift (l : Launch) (D : va_G) (G : zG) {p1 : Int32} {p2 : Int32} {p3 : Int32} {M : zMem} {F : Int64} {ro : Int32} (hf : fX6_shift p1 p2 p3 M = some ro) : zCM l yX6_shift wX6_shift { frames := 2, cells := 0, slots := 0, locals := 45 } D G [.ref (G.1 0), .int p1, .int p2, .int p3] M F (some (.int ro)) M F := by
  refine zCM.ofV (own := RX6) (cc := cX6_shift) (maxL := 5) (ret := (some .int)) (lv := [(0, .ref (G.1 0)), (1, .int p1), (2, .int p2), (3, .int p3)]) (by decide) rfl rfl (Nat.le_of_ble_eq_true rfl) rfl (fun κ X Z hm hκ1 hκ2 => ?_)
  subst hκ1 hκ2
  unfold fX6_shift at hf
  refine z_iload_n X dX6_shift_0 rfl 1 rfl ?_
  obtain ⟨r2, h1, hf⟩ := zb1_sp hf
  refine gc_X6_130 (st := []) X (mtX6_isAxis κ.2.1 κ.2.2.2.2.2.2.2.2.2.2.1 G  h1) rfl rfl (Nat.le_of_ble_eq_true rfl) (Nat.le_of_ble_eq_true rfl) (Nat.le_of_ble_eq_true rfl) dX6_shift_1 ?_
  refine z_if_eq (tgt := 14) X dX6_shift_4 (by decide) (fun h20 => ?_) (fun h20 => ?_)
  · have hf := zt h20 hf
    refine z_bipush (v := (-2 : Int32)) X dX6_shift_14 (by decide) ?_
    exact z_iret X (zR_i hf Z) dX6_shift_16
  · have hf := zf h20 hf
    refine z_iload_n X dX6_shift_7 rfl 2 rfl ?_
    obtain ⟨r4, h3, hf⟩ := zb1_sp hf
    refine gc_X6_133 (st := []) X (mtX6_isShear κ.2.1 κ.2.2.2.2.2.2.2.2.2.2.1 G  h3) rfl rfl (Nat.le_of_ble_eq_true rfl) (Nat.le_of_ble_eq_true rfl) (Nat.le_of_ble_eq_true rfl) dX6_shift_8 ?_
    refine z_if_ne (tgt := 17) X dX6_shift_11 (by decide) (fun h19 => ?_) (fun h19 => ?_)
    · have hf := zf h19 hf
      refine z_iload_n X dX6_shift_17 rfl 1 rfl ?_
      obtain ⟨k6, k6e, hf⟩ := zj_sp hf
      have hj7 : ∀ (x5 : Int32), k6 x5 = some ro → zV κ G 36 [(0, .ref (G.1 0)), (1, .int p1), (2, .int p2), (3, .int p3)] [.int x5] M F := by
        intro x5 hf
        rw [k6e] at hf
        refine z_istore (lv' := [(4, .int x5), (0, .ref (G.1 0)), (1, .int p1), (2, .int p2), (3, .int p3)]) X dX6_shift_36 hm (by decide) rfl ?_
        refine z_iload X dX6_shift_38 0 rfl ?_
        obtain ⟨k14, k14e, hf⟩ := zj_sp hf
        have hj15 : ∀ (x13 : Int32), k14 x13 = some ro → zV κ G 53 [(4, .int x5), (0, .ref (G.1 0)), (1, .int p1), (2, .int p2), (3, .int p3)] [.int x13] M F := by
          intro x13 hf
          rw [k14e] at hf
          exact z_iret X (zR_i hf Z) dX6_shift_53
        clear k14e
        refine z_if_eq (tgt := 52) X dX6_shift_40 (by decide) (fun h18 => ?_) (fun h18 => ?_)
        · have hf := zt h18 hf
          refine z_iconst (v := (-1 : Int32)) X dX6_shift_52 (by decide) ?_
          exact hj15 (-1 : Int32) hf
        · have hf := zf h18 hf
          refine z_iload_n X dX6_shift_43 rfl 2 rfl ?_
          refine z_iload_n X dX6_shift_44 rfl 3 rfl ?_
          refine z_iload_n X dX6_shift_45 rfl 4 rfl ?_
          obtain ⟨r17, h16, hf⟩ := zb1_sp hf
          refine gc_X6_136 (st := []) X (mtX6_shiftOf κ.2.1 κ.2.2.2.2.2.2.2.2.2.2.1 G  h16) rfl rfl (Nat.le_of_ble_eq_true rfl) (Nat.le_of_ble_eq_true rfl) (Nat.le_of_ble_eq_true rfl) dX6_shift_46 ?_
          refine z_goto (tgt := 53) X dX6_shift_49 (by decide) ?_
          exact hj15 r17 hf
      clear k6e
      refine z_if_ne (tgt := 32) X dX6_shift_18 (by decide) (fun h12 => ?_) (fun h12 => ?_)
      · have hf := zf h12 hf
        refine z_iload_n X dX6_shift_32 rfl 3 rfl ?_
        obtain ⟨r9, h8, hf⟩ := zb1_sp hf
        refine gc_X6_66 (st := []) X (mtX6_isRow κ.2.1 κ.2.2.2.2.2.2.2.2.2.2.1 G  h8) rfl rfl (Nat.le_of_ble_eq_true rfl) (Nat.le_of_ble_eq_true rfl) (Nat.le_of_ble_eq_true rfl) dX6_shift_33 ?_
        exact hj7 r9 hf
      · have hf := zt h12 hf
        refine z_aload_n X dX6_shift_21 rfl 0 rfl ?_
        refine gf_X6_12 X dX6_shift_22 ?_
        refine z_iload_n X dX6_shift_25 rfl 3 rfl ?_
        obtain ⟨r11, h10, hf⟩ := zb1_sp hf
        refine gc_X6_62 (st := []) X (mtX4_hasColumn κ.2.1 κ.2.2.2.2.2.2.2.2.2.2.1 G  h10) rfl rfl (Nat.le_of_ble_eq_true rfl) (Nat.le_of_ble_eq_true rfl) (Nat.le_of_ble_eq_true rfl) dX6_shift_26 ?_
        refine z_goto (tgt := 36) X dX6_shift_29 (by decide) ?_
        exact hj7 r11 hf
    · have hf := zt h19 hf
      refine z_bipush (v := (-2 : Int32)) X dX6_shift_14 (by decide) ?_
      exact z_iret X (zR_i hf Z) dX6_shift_16
