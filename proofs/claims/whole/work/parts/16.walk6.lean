set_option maxHeartbeats 4000000 in
set_option maxRecDepth 100000 in
theorem mtX7_findBaseline (l : Launch) (D : va_G) (G : zG) {M : zMem} {F : Int64} {Mo : zMem} (hf : fX7_findBaseline M = some Mo) : zCM l yX7_findBaseline wX7_findBaseline { frames := 5, cells := 0, slots := 0, locals := 112 } D G [.ref (G.1 60)] M F none Mo F := by
  refine zCM.ofV (own := RX7) (cc := cX7_findBaseline) (maxL := 5) (ret := none) (lv := [(0, .ref (G.1 60))]) (by decide) rfl rfl (Nat.le_of_ble_eq_true rfl) rfl (fun κ X Z hm hκ1 hκ2 => ?_)
  subst hκ1 hκ2
  unfold fX7_findBaseline at hf
  refine z_aload_n X dX7_findBaseline_0 rfl 0 rfl ?_
  obtain ⟨M2, h1, hf⟩ := zb1_sp hf
  refine gc_X7_197 (st := []) X (mtX7_findLeads κ.2.1 κ.2.2.2.2.2.2.2.2.2.2.1 G  h1) rfl rfl (Nat.le_of_ble_eq_true rfl) (Nat.le_of_ble_eq_true rfl) (Nat.le_of_ble_eq_true rfl) dX7_findBaseline_1 ?_
  refine z_aload_n X dX7_findBaseline_4 rfl 0 rfl ?_
  refine z_iconst (v := (0 : Int32)) X dX7_findBaseline_5 (by decide) ?_
  refine pf_X7_200 X dX7_findBaseline_6 ?_
  refine z_nmM hf (fun M3 hf => ?_)
  refine z_iconst (v := (0 : Int32)) X dX7_findBaseline_9 (by decide) ?_
  refine z_istore_n (lv' := [(1, .int (0 : Int32)), (0, .ref (G.1 60))]) X dX7_findBaseline_10 rfl hm (by decide) rfl ?_
  obtain ⟨b11, hb12, hf⟩ := zb1_sp hf
  have hX6 : ∀ t, t = b11 → zu2 (fun (x22 : Int32) (M23 : zMem) => zV κ G 59 [(1, .int x22), (0, .ref (G.1 60))] [] M23 F) t := by
    intro t ht
    subst ht
    obtain ⟨x22, M23⟩ := t
    show zV κ G 59 [(1, .int x22), (0, .ref (G.1 60))] [] M23 F
    refine z_iconst (v := (0 : Int32)) X dX7_findBaseline_59 (by decide) ?_
    refine z_istore_n (lv' := [(1, .int (0 : Int32)), (0, .ref (G.1 60))]) X dX7_findBaseline_60 rfl hm (by decide) rfl ?_
    refine z_bipush (v := (31 : Int32)) X dX7_findBaseline_61 (by decide) ?_
    refine z_istore_n (lv' := [(2, .int (31 : Int32)), (1, .int (0 : Int32)), (0, .ref (G.1 60))]) X dX7_findBaseline_63 rfl hm (by decide) rfl ?_
    refine z_iconst (v := (0 : Int32)) X dX7_findBaseline_64 (by decide) ?_
    refine z_istore_n (lv' := [(3, .int (0 : Int32)), (2, .int (31 : Int32)), (1, .int (0 : Int32)), (0, .ref (G.1 60))]) X dX7_findBaseline_65 rfl hm (by decide) rfl ?_
    obtain ⟨b33, hb34, hf⟩ := zb1_sp hf
    have hX28 : ∀ t, t = b33 → zu4 (fun (x42 : Int32) (x43 : Int32) (x44 : Int32) (M45 : zMem) => zV κ G 123 [(3, .int x42), (2, .int x43), (1, .int x44), (0, .ref (G.1 60))] [] M45 F) t := by
      intro t ht
      subst ht
      obtain ⟨x42, x43, x44, M45⟩ := t
      show zV κ G 123 [(3, .int x42), (2, .int x43), (1, .int x44), (0, .ref (G.1 60))] [] M45 F
      exact z_vret X (zR_M hf Z) dX7_findBaseline_123
    refine zlp_walk (P := zu4 (fun (x24 : Int32) (x25 : Int32) (x26 : Int32) (M27 : zMem) => zV κ G 66 [(3, .int x24), (2, .int x25), (1, .int x26), (0, .ref (G.1 60))] [] M27 F)) (fun a46 w32 hf hi30 hx31 => ?_) _ _ hb34
    obtain ⟨x24, x25, x26, M27⟩ := a46
    show zV κ G 66 [(3, .int x24), (2, .int x25), (1, .int x26), (0, .ref (G.1 60))] [] M27 F
    replace hf : fX7_findBaseline_L66 x24 x25 x26 M27 = some w32 := hf
    unfold fX7_findBaseline_L66 at hf
    refine z_iload_n X dX7_findBaseline_66 rfl 0 rfl ?_
    refine z_aload_n X dX7_findBaseline_67 rfl 3 rfl ?_
    refine gf_X7_200 X dX7_findBaseline_68 ?_
    refine z_icmp_ge (tgt := 123) X dX7_findBaseline_71 (by decide) (fun h41 => ?_) (fun h41 => ?_)
    · have hf := zt h41 hf
      have hq := hX28 _ (hx31 _ (Option.some.inj hf).symm)
      exact hq
    · have hf := zf h41 hf
      refine z_aload_n X dX7_findBaseline_74 rfl 3 rfl ?_
      refine z_aload_n X dX7_findBaseline_75 rfl 3 rfl ?_
      refine gf_X7_203 X dX7_findBaseline_76 ?_
      refine z_iload_n X dX7_findBaseline_79 rfl 0 rfl ?_
      refine z_iadd X dX7_findBaseline_80 ?_
      refine z_iload_n X dX7_findBaseline_81 rfl 2 rfl ?_
      refine z_iload_n X dX7_findBaseline_82 rfl 1 rfl ?_
      refine z_aload_n X dX7_findBaseline_83 rfl 3 rfl ?_
      refine gf_X7_200 X dX7_findBaseline_84 ?_
      refine z_iload_n X dX7_findBaseline_87 rfl 0 rfl ?_
      refine z_isub X dX7_findBaseline_88 ?_
      obtain ⟨r36, h35, hf⟩ := zb1_sp hf
      refine gc_X7_206 (st := []) X (mtX7_lowest κ.2.1 κ.2.2.2.2.2.2.2.2.2.2.1 G  h35) rfl rfl (Nat.le_of_ble_eq_true rfl) (Nat.le_of_ble_eq_true rfl) (Nat.le_of_ble_eq_true rfl) dX7_findBaseline_89 ?_
      refine z_istore (lv' := [(4, .int r36), (3, .int x24), (2, .int x25), (1, .int x26), (0, .ref (G.1 60))]) X dX7_findBaseline_92 hm (by decide) rfl ?_
      refine z_aload_n X dX7_findBaseline_94 rfl 4 rfl ?_
      refine gf_X7_57 X dX7_findBaseline_95 ?_
      refine z_aload_n X dX7_findBaseline_98 rfl 4 rfl ?_
      refine gf_X7_203 X dX7_findBaseline_99 ?_
      refine z_iload_n X dX7_findBaseline_102 rfl 1 rfl ?_
      refine z_iadd X dX7_findBaseline_103 ?_
      refine z_iload X dX7_findBaseline_104 0 rfl ?_
      obtain ⟨h37, hf⟩ := zc_sp hf
      refine z_iast X zc_75 zl_75 (zin_sp h37) dX7_findBaseline_106 ?_
      refine z_nmM hf (fun M38 hf => ?_)
      refine z_iload X dX7_findBaseline_107 0 rfl ?_
      refine z_iconst (v := (1 : Int32)) X dX7_findBaseline_109 (by decide) ?_
      refine z_isub X dX7_findBaseline_110 ?_
      refine z_nmI hf (fun x39 hf => ?_)
      refine z_istore_n (lv' := [(1, .int x39), (4, .int r36), (3, .int x24), (2, .int x25), (0, .ref (G.1 60))]) X dX7_findBaseline_111 rfl hm (by decide) rfl ?_
      refine z_iload X dX7_findBaseline_112 1 rfl ?_
      refine z_iconst (v := (1 : Int32)) X dX7_findBaseline_114 (by decide) ?_
      refine z_iadd X dX7_findBaseline_115 ?_
      refine z_nmI hf (fun x40 hf => ?_)
      refine z_istore_n (lv' := [(2, .int x40), (1, .int x39), (4, .int r36), (3, .int x24), (0, .ref (G.1 60))]) X dX7_findBaseline_116 rfl hm (by decide) rfl ?_
      refine z_iinc (lv' := [(3, .int (x24 + (1 : Int32))), (2, .int x40), (1, .int x39), (4, .int r36), (0, .ref (G.1 60))]) (v := x24 + (1 : Int32)) X dX7_findBaseline_117 (j := 3) rfl rfl hm (by decide) rfl ?_
      refine z_goto (tgt := 66) X dX7_findBaseline_120 (by decide) ?_
      refine z_sub [0, 1, 2, 4] rfl ?_
      have hq := hi30 _ (Option.some.inj hf).symm
      exact hq
  refine zlp_walk (P := zu2 (fun (x4 : Int32) (M5 : zMem) => zV κ G 11 [(1, .int x4), (0, .ref (G.1 60))] [] M5 F)) (fun a47 w10 hf hi8 hx9 => ?_) _ _ hb12
  obtain ⟨x4, M5⟩ := a47
  show zV κ G 11 [(1, .int x4), (0, .ref (G.1 60))] [] M5 F
  replace hf : fX7_findBaseline_L11 x4 M5 = some w10 := hf
  unfold fX7_findBaseline_L11 at hf
  refine z_iload_n X dX7_findBaseline_11 rfl 0 rfl ?_
  refine z_bipush (v := (32 : Int32)) X dX7_findBaseline_12 (by decide) ?_
  refine z_aload_n X dX7_findBaseline_14 rfl 1 rfl ?_
  refine gf_X7_7 X dX7_findBaseline_15 ?_
  refine z_imul X dX7_findBaseline_18 ?_
  refine z_icmp_ge (tgt := 59) X dX7_findBaseline_19 (by decide) (fun h21 => ?_) (fun h21 => ?_)
  · have hf := zt h21 hf
    have hq := hX6 _ (hx9 _ (Option.some.inj hf).symm)
    exact hq
  · have hf := zf h21 hf
    refine z_aload_n X dX7_findBaseline_22 rfl 1 rfl ?_
    refine gf_X7_54 X dX7_findBaseline_23 ?_
    refine z_iload_n X dX7_findBaseline_26 rfl 0 rfl ?_
    obtain ⟨h13, hf⟩ := zc_sp hf
    refine z_iald X zc_74 zl_74 (zin_sp h13) dX7_findBaseline_27 ?_
    refine z_aload_n X dX7_findBaseline_28 rfl 1 rfl ?_
    refine gf_X7_200 X dX7_findBaseline_29 ?_
    obtain ⟨k15, k15e, hf⟩ := zj_sp hf
    have hj16 : ∀ (M14 : zMem), k15 M14 = some w10 → zV κ G 53 [(1, .int x4), (0, .ref (G.1 60))] [] M14 F := by
      intro M14 hf
      rw [k15e] at hf
      refine z_iinc (lv' := [(1, .int (x4 + (1 : Int32))), (0, .ref (G.1 60))]) (v := x4 + (1 : Int32)) X dX7_findBaseline_53 (j := 0) rfl rfl hm (by decide) rfl ?_
      refine z_goto (tgt := 11) X dX7_findBaseline_56 (by decide) ?_
      have hq := hi8 _ (Option.some.inj hf).symm
      exact hq
    clear k15e
    refine z_icmp_le (tgt := 53) X dX7_findBaseline_32 (by decide) (fun h20 => ?_) (fun h20 => ?_)
    · have hf := zt h20 hf
      exact hj16 M5 hf
    · have hf := zf h20 hf
      refine z_aload_n X dX7_findBaseline_35 rfl 1 rfl ?_
      refine z_aload_n X dX7_findBaseline_36 rfl 1 rfl ?_
      refine gf_X7_54 X dX7_findBaseline_37 ?_
      refine z_iload_n X dX7_findBaseline_40 rfl 0 rfl ?_
      obtain ⟨h17, hf⟩ := zc_sp hf
      refine z_iald X zc_74 zl_74 (zin_sp h17) dX7_findBaseline_41 ?_
      refine pf_X7_200 X dX7_findBaseline_42 ?_
      refine z_nmM hf (fun M18 hf => ?_)
      refine z_aload_n X dX7_findBaseline_45 rfl 1 rfl ?_
      refine z_iload_n X dX7_findBaseline_46 rfl 0 rfl ?_
      refine z_bipush (v := (32 : Int32)) X dX7_findBaseline_47 (by decide) ?_
      refine z_idiv X dX7_findBaseline_49 (by decide) ?_
      refine pf_X7_203 X dX7_findBaseline_50 ?_
      refine z_nmM hf (fun M19 hf => ?_)
      exact hj16 M19 hf
set_option maxHeartbeats 4000000 in
set_option maxRecDepth 100000 in
theorem mtX7_rowsTogether (l : Launch) (D : va_G) (G : zG) {M : zMem} {F : Int64} {ro : Int32} (hf : fX7_rowsTogether M = some ro) : zCM l yX7_rowsTogether wX7_rowsTogether { frames := 0, cells := 0, slots := 0, locals := 0 } D G [.ref (G.1 60)] M F (some (.int ro)) M F := by
  refine zCM.ofV (own := RX7) (cc := cX7_rowsTogether) (maxL := 3) (ret := (some .int)) (lv := [(0, .ref (G.1 60))]) (by decide) rfl rfl (Nat.le_of_ble_eq_true rfl) rfl (fun κ X Z hm hκ1 hκ2 => ?_)
  subst hκ1 hκ2
  unfold fX7_rowsTogether at hf
  refine z_iconst (v := (0 : Int32)) X dX7_rowsTogether_0 (by decide) ?_
  refine z_istore_n (lv' := [(1, .int (0 : Int32)), (0, .ref (G.1 60))]) X dX7_rowsTogether_1 rfl hm (by decide) rfl ?_
  refine z_iconst (v := (0 : Int32)) X dX7_rowsTogether_2 (by decide) ?_
  refine z_istore_n (lv' := [(2, .int (0 : Int32)), (1, .int (0 : Int32)), (0, .ref (G.1 60))]) X dX7_rowsTogether_3 rfl hm (by decide) rfl ?_
  obtain ⟨b8, hb9, hf⟩ := zb1_sp hf
  have hX3 : ∀ t, t = b8 → zu2 (fun (x13 : Int32) (x14 : Int32) => zV κ G 32 [(2, .int x13), (1, .int x14), (0, .ref (G.1 60))] [] M F) t := by
    intro t ht
    subst ht
    obtain ⟨x13, x14⟩ := t
    show zV κ G 32 [(2, .int x13), (1, .int x14), (0, .ref (G.1 60))] [] M F
    refine z_iload_n X dX7_rowsTogether_32 rfl 1 rfl ?_
    exact z_iret X (zR_i hf Z) dX7_rowsTogether_33
  refine zlp_walk (P := zu2 (fun (x1 : Int32) (x2 : Int32) => zV κ G 4 [(2, .int x1), (1, .int x2), (0, .ref (G.1 60))] [] M F)) (fun a15 w7 hf hi5 hx6 => ?_) _ _ hb9
  obtain ⟨x1, x2⟩ := a15
  show zV κ G 4 [(2, .int x1), (1, .int x2), (0, .ref (G.1 60))] [] M F
  replace hf : fX7_rowsTogether_L4 M x1 x2 = some w7 := hf
  unfold fX7_rowsTogether_L4 at hf
  refine z_iload_n X dX7_rowsTogether_4 rfl 0 rfl ?_
  refine z_aload_n X dX7_rowsTogether_5 rfl 2 rfl ?_
  refine gf_X7_200 X dX7_rowsTogether_6 ?_
  refine z_icmp_ge (tgt := 32) X dX7_rowsTogether_9 (by decide) (fun h12 => ?_) (fun h12 => ?_)
  · have hf := zt h12 hf
    have hq := hX3 _ (hx6 _ (Option.some.inj hf).symm)
    exact hq
  · have hf := zf h12 hf
    refine z_iload_n X dX7_rowsTogether_12 rfl 1 rfl ?_
    refine z_aload_n X dX7_rowsTogether_13 rfl 2 rfl ?_
    refine gf_X7_57 X dX7_rowsTogether_14 ?_
    refine z_aload_n X dX7_rowsTogether_17 rfl 2 rfl ?_
    refine gf_X7_203 X dX7_rowsTogether_18 ?_
    refine z_iload_n X dX7_rowsTogether_21 rfl 0 rfl ?_
    refine z_iadd X dX7_rowsTogether_22 ?_
    obtain ⟨h10, hf⟩ := zc_sp hf
    refine z_iald X zc_75 zl_75 (zin_sp h10) dX7_rowsTogether_23 ?_
    refine z_iadd X dX7_rowsTogether_24 ?_
    refine z_nmI hf (fun x11 hf => ?_)
    refine z_istore_n (lv' := [(1, .int x11), (2, .int x1), (0, .ref (G.1 60))]) X dX7_rowsTogether_25 rfl hm (by decide) rfl ?_
    refine z_iinc (lv' := [(2, .int (x1 + (1 : Int32))), (1, .int x11), (0, .ref (G.1 60))]) (v := x1 + (1 : Int32)) X dX7_rowsTogether_26 (j := 1) rfl rfl hm (by decide) rfl ?_
    refine z_goto (tgt := 4) X dX7_rowsTogether_29 (by decide) ?_
    have hq := hi5 _ (Option.some.inj hf).symm
    exact hq
set_option maxHeartbeats 4000000 in
set_option maxRecDepth 100000 in
theorem mtX7_levelOf (l : Launch) (D : va_G) (G : zG) {M : zMem} {F : Int64} {ro : Int32} (hf : fX7_levelOf M = some ro) : zCM l yX7_levelOf wX7_levelOf { frames := 2, cells := 0, slots := 0, locals := 42 } D G [.ref (G.1 60)] M F (some (.int ro)) M F := by
  refine zCM.ofV (own := RX7) (cc := cX7_levelOf) (maxL := 1) (ret := (some .int)) (lv := [(0, .ref (G.1 60))]) (by decide) rfl rfl (Nat.le_of_ble_eq_true rfl) rfl (fun κ X Z hm hκ1 hκ2 => ?_)
  subst hκ1 hκ2
  unfold fX7_levelOf at hf
  refine z_aload_n X dX7_levelOf_0 rfl 0 rfl ?_
  obtain ⟨r2, h1, hf⟩ := zb1_sp hf
  refine gc_X7_209 (st := []) X (mtX7_rowsTogether κ.2.1 κ.2.2.2.2.2.2.2.2.2.2.1 G  h1) rfl rfl (Nat.le_of_ble_eq_true rfl) (Nat.le_of_ble_eq_true rfl) (Nat.le_of_ble_eq_true rfl) dX7_levelOf_1 ?_
  refine z_aload_n X dX7_levelOf_4 rfl 0 rfl ?_
  refine gf_X7_200 X dX7_levelOf_5 ?_
  obtain ⟨r4, h3, hf⟩ := zb1_sp hf
  refine gc_X7_117 (st := []) X (mtX7_rounded κ.2.1 κ.2.2.2.2.2.2.2.2.2.2.1 G  h3) rfl rfl (Nat.le_of_ble_eq_true rfl) (Nat.le_of_ble_eq_true rfl) (Nat.le_of_ble_eq_true rfl) dX7_levelOf_8 ?_
  exact z_iret X (zR_i hf Z) dX7_levelOf_11
set_option maxHeartbeats 4000000 in
set_option maxRecDepth 100000 in
theorem mtX7_findCurls (l : Launch) (D : va_G) (G : zG) {M : zMem} {F : Int64} {Mo : zMem} (hf : fX7_findCurls M = some Mo) : zCM l yX7_findCurls wX7_findCurls { frames := 3, cells := 0, slots := 0, locals := 62 } D G [.ref (G.1 60)] M F none Mo F := by
  refine zCM.ofV (own := RX7) (cc := cX7_findCurls) (maxL := 4) (ret := none) (lv := [(0, .ref (G.1 60))]) (by decide) rfl rfl (Nat.le_of_ble_eq_true rfl) rfl (fun κ X Z hm hκ1 hκ2 => ?_)
  subst hκ1 hκ2
  unfold fX7_findCurls at hf
  refine z_aload_n X dX7_findCurls_0 rfl 0 rfl ?_
  refine gf_X7_203 X dX7_findCurls_1 ?_
  refine z_aload_n X dX7_findCurls_4 rfl 0 rfl ?_
  refine gf_X7_200 X dX7_findCurls_5 ?_
  refine z_iadd X dX7_findCurls_8 ?_
  refine z_iconst (v := (1 : Int32)) X dX7_findCurls_9 (by decide) ?_
  refine z_isub X dX7_findCurls_10 ?_
  refine z_nmI hf (fun x1 hf => ?_)
  refine z_istore_n (lv' := [(1, .int x1), (0, .ref (G.1 60))]) X dX7_findCurls_11 rfl hm (by decide) rfl ?_
  refine z_iconst (v := (0 : Int32)) X dX7_findCurls_12 (by decide) ?_
  refine z_istore_n (lv' := [(2, .int (0 : Int32)), (1, .int x1), (0, .ref (G.1 60))]) X dX7_findCurls_13 rfl hm (by decide) rfl ?_
  obtain ⟨b9, hb10, hf⟩ := zb1_sp hf
  have hX4 : ∀ t, t = b9 → zu2 (fun (x20 : Int32) (M21 : zMem) => zV κ G 71 [(2, .int x20), (1, .int x1), (0, .ref (G.1 60))] [] M21 F) t := by
    intro t ht
    subst ht
    obtain ⟨x20, M21⟩ := t
    show zV κ G 71 [(2, .int x20), (1, .int x1), (0, .ref (G.1 60))] [] M21 F
    exact z_vret X (zR_M hf Z) dX7_findCurls_71
  refine zlp_walk (P := zu2 (fun (x2 : Int32) (M3 : zMem) => zV κ G 14 [(2, .int x2), (1, .int x1), (0, .ref (G.1 60))] [] M3 F)) (fun a22 w8 hf hi6 hx7 => ?_) _ _ hb10
  obtain ⟨x2, M3⟩ := a22
  show zV κ G 14 [(2, .int x2), (1, .int x1), (0, .ref (G.1 60))] [] M3 F
  replace hf : fX7_findCurls_L14 x1 x2 M3 = some w8 := hf
  unfold fX7_findCurls_L14 at hf
  refine z_iload_n X dX7_findCurls_14 rfl 0 rfl ?_
  refine z_aload_n X dX7_findCurls_15 rfl 2 rfl ?_
  refine gf_X7_7 X dX7_findCurls_16 ?_
  refine z_icmp_ge (tgt := 71) X dX7_findCurls_19 (by decide) (fun h19 => ?_) (fun h19 => ?_)
  · have hf := zt h19 hf
    have hq := hX4 _ (hx7 _ (Option.some.inj hf).symm)
    exact hq
  · have hf := zf h19 hf
    refine z_iload_n X dX7_findCurls_22 rfl 0 rfl ?_
    refine z_aload_n X dX7_findCurls_23 rfl 2 rfl ?_
    refine gf_X7_203 X dX7_findCurls_24 ?_
    have hj : zV κ G 47 [(2, .int x2), (1, .int x1), (0, .ref (G.1 60))] [.int (if (M3 60 20) ≤ x2 then (if x2 ≤ x1 then x2 else x1) else (M3 60 20))] M3 F := by
      refine z_nmI hf (fun x13 hf => ?_)
      refine z_istore_n (lv' := [(3, .int x13), (2, .int x2), (1, .int x1), (0, .ref (G.1 60))]) X dX7_findCurls_47 rfl hm (by decide) rfl ?_
      refine z_aload_n X dX7_findCurls_48 rfl 3 rfl ?_
      refine gf_X7_60 X dX7_findCurls_49 ?_
      refine z_iload_n X dX7_findCurls_52 rfl 1 rfl ?_
      refine z_aload_n X dX7_findCurls_53 rfl 3 rfl ?_
      refine gf_X7_57 X dX7_findCurls_54 ?_
      refine z_iload_n X dX7_findCurls_57 rfl 0 rfl ?_
      obtain ⟨h14, hf⟩ := zc_sp hf
      refine z_iald X zc_75 zl_75 (zin_sp h14) dX7_findCurls_58 ?_
      refine z_aload_n X dX7_findCurls_59 rfl 3 rfl ?_
      obtain ⟨r16, h15, hf⟩ := zb1_sp hf
      refine gc_X7_212 (st := [.int (M3 75 x13.toNatClampNeg), .int x2, .ref (G.1 76)]) X (mtX7_levelOf κ.2.1 κ.2.2.2.2.2.2.2.2.2.2.1 G  h15) rfl rfl (Nat.le_of_ble_eq_true rfl) (Nat.le_of_ble_eq_true rfl) (Nat.le_of_ble_eq_true rfl) dX7_findCurls_60 ?_
      refine z_isub X dX7_findCurls_63 ?_
      obtain ⟨h17, hf⟩ := zc_sp hf
      refine z_iast X zc_76 zl_76 (zin_sp h17) dX7_findCurls_64 ?_
      refine z_nmM hf (fun M18 hf => ?_)
      refine z_iinc (lv' := [(2, .int (x2 + (1 : Int32))), (3, .int x13), (1, .int x1), (0, .ref (G.1 60))]) (v := x2 + (1 : Int32)) X dX7_findCurls_65 (j := 1) rfl rfl hm (by decide) rfl ?_
      refine z_goto (tgt := 14) X dX7_findCurls_68 (by decide) ?_
      refine z_sub [0, 2, 3] rfl ?_
      have hq := hi6 _ (Option.some.inj hf).symm
      exact hq
    refine z_icmp_ge (tgt := 37) X dX7_findCurls_27 (by decide) (fun h11 => ?_) (fun h11 => ?_)
    · try simp only [if_pos h11] at hj
      refine z_iload_n X dX7_findCurls_37 rfl 0 rfl ?_
      refine z_iload_n X dX7_findCurls_38 rfl 1 rfl ?_
      refine z_icmp_le (tgt := 46) X dX7_findCurls_39 (by decide) (fun h12 => ?_) (fun h12 => ?_)
      · try simp only [if_pos h12] at hj
        refine z_iload_n X dX7_findCurls_46 rfl 0 rfl ?_
        exact hj
      · try simp only [if_neg h12] at hj
        refine z_iload_n X dX7_findCurls_42 rfl 1 rfl ?_
        refine z_goto (tgt := 47) X dX7_findCurls_43 (by decide) ?_
        exact hj
    · try simp only [if_neg h11] at hj
      refine z_aload_n X dX7_findCurls_30 rfl 2 rfl ?_
      refine gf_X7_203 X dX7_findCurls_31 ?_
      refine z_goto (tgt := 47) X dX7_findCurls_34 (by decide) ?_
      exact hj
set_option maxHeartbeats 4000000 in
set_option maxRecDepth 100000 in
theorem mtX7_baseline (l : Launch) (D : va_G) (G : zG) {p1 : Int32} {M : zMem} {F : Int64} {ro : Int32} {Mo : zMem} (hf : fX7_baseline p1 M = some (ro, Mo)) : zCM l yX7_baseline wX7_baseline { frames := 6, cells := 0, slots := 0, locals := 136 } D G [.ref (G.1 60), .int p1] M F (some (.int ro)) Mo F := by
  refine zCM.ofV (own := RX7) (cc := cX7_baseline) (maxL := 2) (ret := (some .int)) (lv := [(0, .ref (G.1 60)), (1, .int p1)]) (by decide) rfl rfl (Nat.le_of_ble_eq_true rfl) rfl (fun κ X Z hm hκ1 hκ2 => ?_)
  subst hκ1 hκ2
  unfold fX7_baseline at hf
  refine z_iload_n X dX7_baseline_0 rfl 1 rfl ?_
  refine z_iconst (v := (0 : Int32)) X dX7_baseline_1 (by decide) ?_
  refine z_iconst (v := (2 : Int32)) X dX7_baseline_2 (by decide) ?_
  obtain ⟨r2, h1, hf⟩ := zb1_sp hf
  refine gc_X7_66 (st := []) X (mtX7_within κ.2.1 κ.2.2.2.2.2.2.2.2.2.2.1 G  h1) rfl rfl (Nat.le_of_ble_eq_true rfl) (Nat.le_of_ble_eq_true rfl) (Nat.le_of_ble_eq_true rfl) dX7_baseline_3 ?_
  refine z_if_ne (tgt := 12) X dX7_baseline_6 (by decide) (fun h13 => ?_) (fun h13 => ?_)
  · have hf := zf h13 hf
    refine z_aload_n X dX7_baseline_12 rfl 0 rfl ?_
    obtain ⟨M4, h3, hf⟩ := zb1_sp hf
    refine gc_X7_215 (st := []) X (mtX7_findBaseline κ.2.1 κ.2.2.2.2.2.2.2.2.2.2.1 G  h3) rfl rfl (Nat.le_of_ble_eq_true rfl) (Nat.le_of_ble_eq_true rfl) (Nat.le_of_ble_eq_true rfl) dX7_baseline_13 ?_
    refine z_aload_n X dX7_baseline_16 rfl 0 rfl ?_
    refine gf_X7_200 X dX7_baseline_17 ?_
    refine z_if_ne (tgt := 26) X dX7_baseline_20 (by decide) (fun h12 => ?_) (fun h12 => ?_)
    · have hf := zf h12 hf
      refine z_iload_n X dX7_baseline_26 rfl 1 rfl ?_
      obtain ⟨k6, k6e, hf⟩ := zj_sp hf
      have hj7 : ∀ (x5 : Int32), k6 x5 = some (ro, Mo) → zV κ G 53 [(0, .ref (G.1 60)), (1, .int p1)] [.int x5] M4 F := by
        intro x5 hf
        rw [k6e] at hf
        exact z_iret X (zR_iM hf Z) dX7_baseline_53
      clear k6e
      refine z_if_ne (tgt := 37) X dX7_baseline_27 (by decide) (fun h11 => ?_) (fun h11 => ?_)
      · have hf := zf h11 hf
        refine z_iload_n X dX7_baseline_37 rfl 1 rfl ?_
        refine z_iconst (v := (1 : Int32)) X dX7_baseline_38 (by decide) ?_
        refine z_icmp_ne (tgt := 49) X dX7_baseline_39 (by decide) (fun h10 => ?_) (fun h10 => ?_)
        · have hf := zf h10 hf
          refine z_aload_n X dX7_baseline_49 rfl 0 rfl ?_
          obtain ⟨r9, h8, hf⟩ := zb1_sp hf
          refine gc_X7_212 (st := []) X (mtX7_levelOf κ.2.1 κ.2.2.2.2.2.2.2.2.2.2.1 G  h8) rfl rfl (Nat.le_of_ble_eq_true rfl) (Nat.le_of_ble_eq_true rfl) (Nat.le_of_ble_eq_true rfl) dX7_baseline_50 ?_
          exact hj7 r9 hf
        · have hf := zt h10 hf
          refine z_aload_n X dX7_baseline_42 rfl 0 rfl ?_
          refine gf_X7_200 X dX7_baseline_43 ?_
          refine z_goto (tgt := 53) X dX7_baseline_46 (by decide) ?_
          exact hj7 (M4 60 21) hf
      · have hf := zt h11 hf
        refine z_aload_n X dX7_baseline_30 rfl 0 rfl ?_
        refine gf_X7_203 X dX7_baseline_31 ?_
        refine z_goto (tgt := 53) X dX7_baseline_34 (by decide) ?_
        exact hj7 (M4 60 20) hf
    · have hf := zt h12 hf
      refine z_bipush (v := (-9 : Int32)) X dX7_baseline_23 (by decide) ?_
      exact z_iret X (zR_iM hf Z) dX7_baseline_25
  · have hf := zt h13 hf
    refine z_bipush (v := (-2 : Int32)) X dX7_baseline_9 (by decide) ?_
    exact z_iret X (zR_iM hf Z) dX7_baseline_11
set_option maxHeartbeats 4000000 in
set_option maxRecDepth 100000 in
theorem mtX7_foot (l : Launch) (D : va_G) (G : zG) {p1 : Int32} {M : zMem} {F : Int64} {ro : Int32} {Mo : zMem} (hf : fX7_foot p1 M = some (ro, Mo)) : zCM l yX7_foot wX7_foot { frames := 6, cells := 0, slots := 0, locals := 136 } D G [.ref (G.1 60), .int p1] M F (some (.int ro)) Mo F := by
  refine zCM.ofV (own := RX7) (cc := cX7_foot) (maxL := 2) (ret := (some .int)) (lv := [(0, .ref (G.1 60)), (1, .int p1)]) (by decide) rfl rfl (Nat.le_of_ble_eq_true rfl) rfl (fun κ X Z hm hκ1 hκ2 => ?_)
  subst hκ1 hκ2
  unfold fX7_foot at hf
  refine z_aload_n X dX7_foot_0 rfl 0 rfl ?_
  refine z_iload_n X dX7_foot_1 rfl 1 rfl ?_
  obtain ⟨r2, h1, hf⟩ := zb1_sp hf
  refine gc_X7_70 (st := []) X (mtX7_isColumn κ.2.1 κ.2.2.2.2.2.2.2.2.2.2.1 G  h1) rfl rfl (Nat.le_of_ble_eq_true rfl) (Nat.le_of_ble_eq_true rfl) (Nat.le_of_ble_eq_true rfl) dX7_foot_2 ?_
  refine z_if_ne (tgt := 10) X dX7_foot_5 (by decide) (fun h13 => ?_) (fun h13 => ?_)
  · have hf := zf h13 hf
    refine z_aload_n X dX7_foot_10 rfl 0 rfl ?_
    obtain ⟨M4, h3, hf⟩ := zb1_sp hf
    refine gc_X7_215 (st := []) X (mtX7_findBaseline κ.2.1 κ.2.2.2.2.2.2.2.2.2.2.1 G  h3) rfl rfl (Nat.le_of_ble_eq_true rfl) (Nat.le_of_ble_eq_true rfl) (Nat.le_of_ble_eq_true rfl) dX7_foot_11 ?_
    refine z_aload_n X dX7_foot_14 rfl 0 rfl ?_
    refine gf_X7_200 X dX7_foot_15 ?_
    obtain ⟨k6, k6e, hf⟩ := zj_sp hf
    have hj7 : ∀ (x5 : Int32), k6 x5 = some (ro, Mo) → zV κ G 54 [(0, .ref (G.1 60)), (1, .int p1)] [.int x5] M4 F := by
      intro x5 hf
      rw [k6e] at hf
      exact z_iret X (zR_iM hf Z) dX7_foot_54
    clear k6e
    refine z_if_le (tgt := 52) X dX7_foot_18 (by decide) (fun h12 => ?_) (fun h12 => ?_)
    · have hf := zt h12 hf
      refine z_bipush (v := (-9 : Int32)) X dX7_foot_52 (by decide) ?_
      exact hj7 (-9 : Int32) hf
    · have hf := zf h12 hf
      refine z_iload_n X dX7_foot_21 rfl 1 rfl ?_
      refine z_aload_n X dX7_foot_22 rfl 0 rfl ?_
      refine gf_X7_203 X dX7_foot_23 ?_
      refine z_aload_n X dX7_foot_26 rfl 0 rfl ?_
      refine gf_X7_203 X dX7_foot_27 ?_
      refine z_aload_n X dX7_foot_30 rfl 0 rfl ?_
      refine gf_X7_200 X dX7_foot_31 ?_
      refine z_iadd X dX7_foot_34 ?_
      refine z_iconst (v := (1 : Int32)) X dX7_foot_35 (by decide) ?_
      refine z_isub X dX7_foot_36 ?_
      obtain ⟨r9, h8, hf⟩ := zb1_sp hf
      refine gc_X7_66 (st := []) X (mtX7_within κ.2.1 κ.2.2.2.2.2.2.2.2.2.2.1 G  h8) rfl rfl (Nat.le_of_ble_eq_true rfl) (Nat.le_of_ble_eq_true rfl) (Nat.le_of_ble_eq_true rfl) dX7_foot_37 ?_
      refine z_if_eq (tgt := 52) X dX7_foot_40 (by decide) (fun h11 => ?_) (fun h11 => ?_)
      · have hf := zt h11 hf
        refine z_bipush (v := (-9 : Int32)) X dX7_foot_52 (by decide) ?_
        exact hj7 (-9 : Int32) hf
      · have hf := zf h11 hf
        refine z_aload_n X dX7_foot_43 rfl 0 rfl ?_
        refine gf_X7_57 X dX7_foot_44 ?_
        refine z_iload_n X dX7_foot_47 rfl 1 rfl ?_
        obtain ⟨h10, hf⟩ := zc_sp hf
        refine z_iald X zc_75 zl_75 (zin_sp h10) dX7_foot_48 ?_
        refine z_goto (tgt := 54) X dX7_foot_49 (by decide) ?_
        exact hj7 (M4 75 p1.toNatClampNeg) hf
  · have hf := zt h13 hf
    refine z_iconst (v := (-1 : Int32)) X dX7_foot_8 (by decide) ?_
    exact z_iret X (zR_iM hf Z) dX7_foot_9
set_option maxHeartbeats 4000000 in
set_option maxRecDepth 100000 in
theorem mtX7_curl (l : Launch) (D : va_G) (G : zG) {p1 : Int32} {M : zMem} {F : Int64} {ro : Int32} {Mo : zMem} (hf : fX7_curl p1 M = some (ro, Mo)) : zCM l yX7_curl wX7_curl { frames := 6, cells := 0, slots := 0, locals := 136 } D G [.ref (G.1 60), .int p1] M F (some (.int ro)) Mo F := by
  refine zCM.ofV (own := RX7) (cc := cX7_curl) (maxL := 2) (ret := (some .int)) (lv := [(0, .ref (G.1 60)), (1, .int p1)]) (by decide) rfl rfl (Nat.le_of_ble_eq_true rfl) rfl (fun κ X Z hm hκ1 hκ2 => ?_)
  subst hκ1 hκ2
  unfold fX7_curl at hf
  refine z_aload_n X dX7_curl_0 rfl 0 rfl ?_
  refine z_iload_n X dX7_curl_1 rfl 1 rfl ?_
  obtain ⟨r2, h1, hf⟩ := zb1_sp hf
  refine gc_X7_70 (st := []) X (mtX7_isColumn κ.2.1 κ.2.2.2.2.2.2.2.2.2.2.1 G  h1) rfl rfl (Nat.le_of_ble_eq_true rfl) (Nat.le_of_ble_eq_true rfl) (Nat.le_of_ble_eq_true rfl) dX7_curl_2 ?_
  refine z_if_ne (tgt := 10) X dX7_curl_5 (by decide) (fun h10 => ?_) (fun h10 => ?_)
  · have hf := zf h10 hf
    refine z_aload_n X dX7_curl_10 rfl 0 rfl ?_
    obtain ⟨M4, h3, hf⟩ := zb1_sp hf
    refine gc_X7_215 (st := []) X (mtX7_findBaseline κ.2.1 κ.2.2.2.2.2.2.2.2.2.2.1 G  h3) rfl rfl (Nat.le_of_ble_eq_true rfl) (Nat.le_of_ble_eq_true rfl) (Nat.le_of_ble_eq_true rfl) dX7_curl_11 ?_
    refine z_aload_n X dX7_curl_14 rfl 0 rfl ?_
    refine gf_X7_200 X dX7_curl_15 ?_
    refine z_if_ne (tgt := 24) X dX7_curl_18 (by decide) (fun h9 => ?_) (fun h9 => ?_)
    · have hf := zf h9 hf
      refine z_aload_n X dX7_curl_24 rfl 0 rfl ?_
      obtain ⟨M6, h5, hf⟩ := zb1_sp hf
      refine gc_X7_218 (st := []) X (mtX7_findCurls κ.2.1 κ.2.2.2.2.2.2.2.2.2.2.1 G  h5) rfl rfl (Nat.le_of_ble_eq_true rfl) (Nat.le_of_ble_eq_true rfl) (Nat.le_of_ble_eq_true rfl) dX7_curl_25 ?_
      refine z_aload_n X dX7_curl_28 rfl 0 rfl ?_
      refine z_iload_n X dX7_curl_29 rfl 1 rfl ?_
      obtain ⟨r8, h7, hf⟩ := zb1_sp hf
      refine gc_X7_161 (st := []) X (mtX7_curlOf κ.2.1 κ.2.2.2.2.2.2.2.2.2.2.1 G  h7) rfl rfl (Nat.le_of_ble_eq_true rfl) (Nat.le_of_ble_eq_true rfl) (Nat.le_of_ble_eq_true rfl) dX7_curl_30 ?_
      refine z_bipush (v := (100 : Int32)) X dX7_curl_33 (by decide) ?_
      refine z_iadd X dX7_curl_35 ?_
      exact z_iret X (zR_iM hf Z) dX7_curl_36
    · have hf := zt h9 hf
      refine z_bipush (v := (-3 : Int32)) X dX7_curl_21 (by decide) ?_
      exact z_iret X (zR_iM hf Z) dX7_curl_23
  · have hf := zt h10 hf
    refine z_iconst (v := (-1 : Int32)) X dX7_curl_8 (by decide) ?_
    exact z_iret X (zR_iM hf Z) dX7_curl_9
set_option maxHeartbeats 4000000 in
set_option maxRecDepth 100000 in
theorem mtX7_level (l : Launch) (D : va_G) (G : zG) {M : zMem} {F : Int64} {ro : Int32} {Mo : zMem} (hf : fX7_level M = some (ro, Mo)) : zCM l yX7_level wX7_level { frames := 6, cells := 0, slots := 0, locals := 138 } D G [.ref (G.1 60)] M F (some (.int ro)) Mo F := by
  refine zCM.ofV (own := RX7) (cc := cX7_level) (maxL := 1) (ret := (some .int)) (lv := [(0, .ref (G.1 60))]) (by decide) rfl rfl (Nat.le_of_ble_eq_true rfl) rfl (fun κ X Z hm hκ1 hκ2 => ?_)
  subst hκ1 hκ2
  unfold fX7_level at hf
  refine z_aload_n X dX7_level_0 rfl 0 rfl ?_
  obtain ⟨M2, h1, hf⟩ := zb1_sp hf
  refine gc_X7_215 (st := []) X (mtX7_findBaseline κ.2.1 κ.2.2.2.2.2.2.2.2.2.2.1 G  h1) rfl rfl (Nat.le_of_ble_eq_true rfl) (Nat.le_of_ble_eq_true rfl) (Nat.le_of_ble_eq_true rfl) dX7_level_1 ?_
  refine z_aload_n X dX7_level_4 rfl 0 rfl ?_
  refine gf_X7_200 X dX7_level_5 ?_
  refine z_if_ne (tgt := 14) X dX7_level_8 (by decide) (fun h8 => ?_) (fun h8 => ?_)
  · have hf := zf h8 hf
    refine z_aload_n X dX7_level_14 rfl 0 rfl ?_
    obtain ⟨M4, h3, hf⟩ := zb1_sp hf
    refine gc_X7_218 (st := []) X (mtX7_findCurls κ.2.1 κ.2.2.2.2.2.2.2.2.2.2.1 G  h3) rfl rfl (Nat.le_of_ble_eq_true rfl) (Nat.le_of_ble_eq_true rfl) (Nat.le_of_ble_eq_true rfl) dX7_level_15 ?_
    refine z_aload_n X dX7_level_18 rfl 0 rfl ?_
    refine z_iconst (v := (2 : Int32)) X dX7_level_19 (by decide) ?_
    refine z_iconst (v := (0 : Int32)) X dX7_level_20 (by decide) ?_
    obtain ⟨r6, M7, h5, hf⟩ := zb2_sp hf
    refine gc_X7_170 (st := []) X (mtX7_moveAll κ.2.1 κ.2.2.2.2.2.2.2.2.2.2.1 G  h5) rfl rfl (Nat.le_of_ble_eq_true rfl) (Nat.le_of_ble_eq_true rfl) (Nat.le_of_ble_eq_true rfl) dX7_level_21 ?_
    exact z_iret X (zR_iM hf Z) dX7_level_24
  · have hf := zt h8 hf
    refine z_bipush (v := (-3 : Int32)) X dX7_level_11 (by decide) ?_
    exact z_iret X (zR_iM hf Z) dX7_level_13
set_option maxHeartbeats 4000000 in
set_option maxRecDepth 100000 in
theorem mtX7_nearest (l : Launch) (D : va_G) (G : zG) {p1 : Int32} {p2 : Int32} {p3 : Int32} {M : zMem} {F : Int64} {Mo : zMem} {Fo : Int64} (hf : fX7_nearest p1 p2 p3 M F = some (Mo, Fo)) : zCM l yX7_nearest wX7_nearest { frames := 0, cells := 0, slots := 0, locals := 0 } D G [.ref (G.1 60), .int p1, .int p2, .int p3] M F none Mo Fo := by
  refine zCM.ofV (own := RX7) (cc := cX7_nearest) (maxL := 10) (ret := none) (lv := [(0, .ref (G.1 60)), (1, .int p1), (2, .int p2), (3, .int p3)]) (by decide) rfl rfl (Nat.le_of_ble_eq_true rfl) rfl (fun κ X Z hm hκ1 hκ2 => ?_)
  subst hκ1 hκ2
  unfold fX7_nearest at hf
  refine z_iload_n X dX7_nearest_0 rfl 1 rfl ?_
  refine z_i2l X dX7_nearest_1 ?_
  refine z_nmL hf (fun x1 hf => ?_)
  refine z_lstore (lv' := [(4, .long x1), (0, .ref (G.1 60)), (1, .int p1), (2, .int p2), (3, .int p3)]) X dX7_nearest_2 hm (by decide) rfl ?_
  refine z_lconst (v := (1 : Int64)) X dX7_nearest_4 (by decide) ?_
  refine z_iload_n X dX7_nearest_5 rfl 4 rfl ?_
  refine z_iconst (v := (1 : Int32)) X dX7_nearest_6 (by decide) ?_
  refine z_isub X dX7_nearest_7 ?_
  refine z_lshl X dX7_nearest_8 ?_
  refine z_nmL hf (fun x2 hf => ?_)
  refine z_lstore (lv' := [(6, .long x2), (4, .long x1), (0, .ref (G.1 60)), (1, .int p1), (2, .int p2), (3, .int p3)]) X dX7_nearest_9 hm (by decide) rfl ?_
  refine z_aload_n X dX7_nearest_11 rfl 2 rfl ?_
  refine z_iconst (v := (0 : Int32)) X dX7_nearest_12 (by decide) ?_
  refine pf_X7_221 X dX7_nearest_13 ?_
  refine z_nmM hf (fun M3 hf => ?_)
  refine z_sub [0, 1, 2, 4] rfl ?_
  obtain ⟨b11, hb12, hf⟩ := zb1_sp hf
  have hX6 : ∀ t, t = b11 → zu2 (fun (x17 : Int64) (M18 : zMem) => zV κ G 48 [(6, .long x2), (4, .long x17), (0, .ref (G.1 60)), (2, .int p2)] [] M18 F) t := by
    intro t ht
    subst ht
    obtain ⟨x17, M18⟩ := t
    show zV κ G 48 [(6, .long x2), (4, .long x17), (0, .ref (G.1 60)), (2, .int p2)] [] M18 F
    refine z_aload_n X dX7_nearest_48 rfl 2 rfl ?_
    refine z_lload X dX7_nearest_49 1 rfl ?_
    refine z_iload_n X dX7_nearest_51 rfl 3 rfl ?_
    refine z_i2l X dX7_nearest_52 ?_
    obtain ⟨h19, hf⟩ := zc_sp hf
    refine z_ldiv X dX7_nearest_53 (of_decide_eq_true h19) ?_
    refine pf_X7_224 X dX7_nearest_54 ?_
    refine z_nmF hf (fun F20 hf => ?_)
    refine z_ldc2 (v := (2 : Int64)) X dX7_nearest_57 (List.mem_cons_of_mem _ zw_9_5) ?_
    refine z_lload X dX7_nearest_60 1 rfl ?_
    refine z_iload_n X dX7_nearest_62 rfl 3 rfl ?_
    refine z_i2l X dX7_nearest_63 ?_
    obtain ⟨h21, hf⟩ := zc_sp hf
    refine z_lrem X dX7_nearest_64 (of_decide_eq_true h21) ?_
    refine z_lmul X dX7_nearest_65 ?_
    refine z_nmL hf (fun x22 hf => ?_)
    refine z_lstore (lv' := [(8, .long x22), (6, .long x2), (4, .long x17), (0, .ref (G.1 60)), (2, .int p2)]) X dX7_nearest_66 hm (by decide) rfl ?_
    refine z_aload_n X dX7_nearest_68 rfl 3 rfl ?_
    refine z_dup X dX7_nearest_69 rfl ?_
    refine gf_X7_224 X dX7_nearest_70 ?_
    refine z_lload X dX7_nearest_73 0 rfl ?_
    refine z_iload_n X dX7_nearest_75 rfl 4 rfl ?_
    refine z_i2l X dX7_nearest_76 ?_
    refine z_lcmp X dX7_nearest_77 ?_
    have hj : zV κ G 107 [(8, .long x22), (6, .long x2), (4, .long x17), (0, .ref (G.1 60)), (2, .int p2)] [.long (if 0 < (lg_cmp x22 ((p2).toInt64)) then (1 : Int64) else (if (lg_cmp x22 ((p2).toInt64)) = 0 then (if (lg_cmp (F20 - F20 / (2 : Int64) * (2 : Int64)) (1 : Int64)) = 0 then (1 : Int64) else (0 : Int64)) else (0 : Int64))), .long F20, .ref (G.1 60)] M18 F20 := by
      refine z_ladd X dX7_nearest_107 ?_
      refine pf_X7_224 X dX7_nearest_108 ?_
      refine z_nmF hf (fun F26 hf => ?_)
      refine z_aload_n X dX7_nearest_111 rfl 3 rfl ?_
      refine gf_X7_224 X dX7_nearest_112 ?_
      refine z_ldc2 (v := (2 : Int64)) X dX7_nearest_115 (List.mem_cons_of_mem _ zw_9_5) ?_
      refine z_lload X dX7_nearest_118 1 rfl ?_
      refine z_lmul X dX7_nearest_120 ?_
      refine z_lcmp X dX7_nearest_121 ?_
      obtain ⟨k29, k29e, hf⟩ := zj_sp hf
      have hj30 : ∀ (M27 : zMem) (F28 : Int64), k29 M27 F28 = some (Mo, Fo) → zV κ G 141 [(8, .long x22), (6, .long x2), (4, .long x17), (0, .ref (G.1 60)), (2, .int p2)] [] M27 F28 := by
        intro M27 F28 hf
        rw [k29e] at hf
        exact z_vret X (zR_MF hf Z) dX7_nearest_141
      clear k29e
      refine z_if_ne (tgt := 141) X dX7_nearest_122 (by decide) (fun h33 => ?_) (fun h33 => ?_)
      · have hf := zf h33 hf
        exact hj30 M18 F26 hf
      · have hf := zt h33 hf
        refine z_aload_n X dX7_nearest_125 rfl 3 rfl ?_
        refine z_lload X dX7_nearest_126 1 rfl ?_
        refine pf_X7_224 X dX7_nearest_128 ?_
        refine z_nmF hf (fun F31 hf => ?_)
        refine z_aload_n X dX7_nearest_131 rfl 3 rfl ?_
        refine z_dup X dX7_nearest_132 rfl ?_
        refine gf_X7_221 X dX7_nearest_133 ?_
        refine z_iconst (v := (1 : Int32)) X dX7_nearest_136 (by decide) ?_
        refine z_iadd X dX7_nearest_137 ?_
        refine pf_X7_221 X dX7_nearest_138 ?_
        refine z_nmM hf (fun M32 hf => ?_)
        exact hj30 M32 F31 hf
    refine z_if_gt (tgt := 102) X dX7_nearest_78 (by decide) (fun h23 => ?_) (fun h23 => ?_)
    · try simp only [if_pos h23] at hj
      refine z_lconst (v := (1 : Int64)) X dX7_nearest_102 (by decide) ?_
      refine z_goto (tgt := 107) X dX7_nearest_103 (by decide) ?_
      exact hj
    · try simp only [if_neg h23] at hj
      refine z_lload X dX7_nearest_81 0 rfl ?_
      refine z_iload_n X dX7_nearest_83 rfl 4 rfl ?_
      refine z_i2l X dX7_nearest_84 ?_
      refine z_lcmp X dX7_nearest_85 ?_
      refine z_if_ne (tgt := 106) X dX7_nearest_86 (by decide) (fun h24 => ?_) (fun h24 => ?_)
      · try simp only [if_neg h24] at hj
        refine z_lconst (v := (0 : Int64)) X dX7_nearest_106 (by decide) ?_
        exact hj
      · try simp only [if_pos h24] at hj
        refine z_aload_n X dX7_nearest_89 rfl 3 rfl ?_
        refine gf_X7_224 X dX7_nearest_90 ?_
        refine z_ldc2 (v := (2 : Int64)) X dX7_nearest_93 (List.mem_cons_of_mem _ zw_9_5) ?_
        refine z_lrem X dX7_nearest_96 (by decide) ?_
        refine z_lconst (v := (1 : Int64)) X dX7_nearest_97 (by decide) ?_
        refine z_lcmp X dX7_nearest_98 ?_
        refine z_if_ne (tgt := 106) X dX7_nearest_99 (by decide) (fun h25 => ?_) (fun h25 => ?_)
        · try simp only [if_neg h25] at hj
          refine z_lconst (v := (0 : Int64)) X dX7_nearest_106 (by decide) ?_
          exact hj
        · try simp only [if_pos h25] at hj
          refine z_lconst (v := (1 : Int64)) X dX7_nearest_102 (by decide) ?_
          refine z_goto (tgt := 107) X dX7_nearest_103 (by decide) ?_
          exact hj
  refine zlp_walk (P := zu2 (fun (x4 : Int64) (M5 : zMem) => zV κ G 16 [(6, .long x2), (4, .long x4), (0, .ref (G.1 60)), (2, .int p2)] [] M5 F)) (fun a34 w10 hf hi8 hx9 => ?_) _ _ hb12
  obtain ⟨x4, M5⟩ := a34
  show zV κ G 16 [(6, .long x2), (4, .long x4), (0, .ref (G.1 60)), (2, .int p2)] [] M5 F
  replace hf : fX7_nearest_L16 p2 x2 x4 M5 = some w10 := hf
  unfold fX7_nearest_L16 at hf
  refine z_lload X dX7_nearest_16 1 rfl ?_
  refine z_iload_n X dX7_nearest_18 rfl 3 rfl ?_
  refine z_i2l X dX7_nearest_19 ?_
  obtain ⟨h13, hf⟩ := zc_sp hf
  refine z_ldiv X dX7_nearest_20 (of_decide_eq_true h13) ?_
  refine z_lload X dX7_nearest_21 0 rfl ?_
  refine z_lcmp X dX7_nearest_23 ?_
  refine z_if_ge (tgt := 48) X dX7_nearest_24 (by decide) (fun h16 => ?_) (fun h16 => ?_)
  · have hf := zt h16 hf
    have hq := hX6 _ (hx9 _ (Option.some.inj hf).symm)
    exact hq
  · have hf := zf h16 hf
    refine z_lload X dX7_nearest_27 1 rfl ?_
    refine z_ldc2 (v := (2 : Int64)) X dX7_nearest_29 (List.mem_cons_of_mem _ zw_9_5) ?_
    refine z_lmul X dX7_nearest_32 ?_
    refine z_nmL hf (fun x14 hf => ?_)
    refine z_lstore (lv' := [(4, .long x14), (6, .long x2), (0, .ref (G.1 60)), (2, .int p2)]) X dX7_nearest_33 hm (by decide) rfl ?_
    refine z_aload_n X dX7_nearest_35 rfl 2 rfl ?_
    refine z_dup X dX7_nearest_36 rfl ?_
    refine gf_X7_221 X dX7_nearest_37 ?_
    refine z_iconst (v := (1 : Int32)) X dX7_nearest_40 (by decide) ?_
    refine z_isub X dX7_nearest_41 ?_
    refine pf_X7_221 X dX7_nearest_42 ?_
    refine z_nmM hf (fun M15 hf => ?_)
    refine z_goto (tgt := 16) X dX7_nearest_45 (by decide) ?_
    refine z_sub [1, 0, 2, 3] rfl ?_
    have hq := hi8 _ (Option.some.inj hf).symm
    exact hq
set_option maxHeartbeats 4000000 in
set_option maxRecDepth 100000 in
theorem mtX7_bits (l : Launch) (D : va_G) (G : zG) {p1 : Int32} {p2 : Int32} {M : zMem} {F : Int64} {ro : Int64} (hf : fX7_bits p1 p2 M F = some ro) : zCM l yX7_bits wX7_bits { frames := 0, cells := 0, slots := 0, locals := 0 } D G [.ref (G.1 60), .int p1, .int p2] M F (some (.long ro)) M F := by
  refine zCM.ofV (own := RX7) (cc := cX7_bits) (maxL := 5) (ret := (some .long)) (lv := [(0, .ref (G.1 60)), (1, .int p1), (2, .int p2)]) (by decide) rfl rfl (Nat.le_of_ble_eq_true rfl) rfl (fun κ X Z hm hκ1 hκ2 => ?_)
  subst hκ1 hκ2
  unfold fX7_bits at hf
  refine z_lconst (v := (1 : Int64)) X dX7_bits_0 (by decide) ?_
  refine z_iload_n X dX7_bits_1 rfl 1 rfl ?_
  refine z_iconst (v := (1 : Int32)) X dX7_bits_2 (by decide) ?_
  refine z_isub X dX7_bits_3 ?_
  refine z_lshl X dX7_bits_4 ?_
  refine z_nmL hf (fun x1 hf => ?_)
  refine z_lstore_n (lv' := [(3, .long x1), (0, .ref (G.1 60)), (1, .int p1), (2, .int p2)]) X dX7_bits_5 rfl hm (by decide) rfl ?_
  refine z_aload_n X dX7_bits_6 rfl 1 rfl ?_
  refine gf_X7_221 X dX7_bits_7 ?_
  refine z_iload_n X dX7_bits_10 rfl 2 rfl ?_
  refine z_iadd X dX7_bits_11 ?_
  refine z_i2l X dX7_bits_12 ?_
  refine z_lconst (v := (1 : Int64)) X dX7_bits_13 (by decide) ?_
  refine z_lsub X dX7_bits_14 ?_
  refine z_iload_n X dX7_bits_15 rfl 3 rfl ?_
  refine z_i2l X dX7_bits_16 ?_
  refine z_ladd X dX7_bits_17 ?_
  refine z_lload_n X dX7_bits_18 rfl 0 rfl ?_
  refine z_lmul X dX7_bits_19 ?_
  refine z_aload_n X dX7_bits_20 rfl 1 rfl ?_
  refine gf_X7_224 X dX7_bits_21 ?_
  refine z_ladd X dX7_bits_24 ?_
  refine z_lload_n X dX7_bits_25 rfl 0 rfl ?_
  refine z_lsub X dX7_bits_26 ?_
  exact z_lret X (zR_l hf Z) dX7_bits_27
set_option maxHeartbeats 4000000 in
set_option maxRecDepth 100000 in
theorem mtX7_mean (l : Launch) (D : va_G) (G : zG) {M : zMem} {F : Int64} {ro : Int64} {Mo : zMem} {Fo : Int64} (hf : fX7_mean M F = some (ro, Mo, Fo)) : zCM l yX7_mean wX7_mean { frames := 6, cells := 0, slots := 0, locals := 136 } D G [.ref (G.1 60)] M F (some (.long ro)) Mo Fo := by
  refine zCM.ofV (own := RX7) (cc := cX7_mean) (maxL := 1) (ret := (some .long)) (lv := [(0, .ref (G.1 60))]) (by decide) rfl rfl (Nat.le_of_ble_eq_true rfl) rfl (fun κ X Z hm hκ1 hκ2 => ?_)
  subst hκ1 hκ2
  unfold fX7_mean at hf
  refine z_aload_n X dX7_mean_0 rfl 0 rfl ?_
  obtain ⟨M2, h1, hf⟩ := zb1_sp hf
  refine gc_X7_215 (st := []) X (mtX7_findBaseline κ.2.1 κ.2.2.2.2.2.2.2.2.2.2.1 G  h1) rfl rfl (Nat.le_of_ble_eq_true rfl) (Nat.le_of_ble_eq_true rfl) (Nat.le_of_ble_eq_true rfl) dX7_mean_1 ?_
  refine z_aload_n X dX7_mean_4 rfl 0 rfl ?_
  refine gf_X7_200 X dX7_mean_5 ?_
  refine z_if_ne (tgt := 15) X dX7_mean_8 (by decide) (fun h13 => ?_) (fun h13 => ?_)
  · have hf := zf h13 hf
    refine z_aload_n X dX7_mean_15 rfl 0 rfl ?_
    obtain ⟨r4, h3, hf⟩ := zb1_sp hf
    refine gc_X7_209 (st := []) X (mtX7_rowsTogether κ.2.1 κ.2.2.2.2.2.2.2.2.2.2.1 G  h3) rfl rfl (Nat.le_of_ble_eq_true rfl) (Nat.le_of_ble_eq_true rfl) (Nat.le_of_ble_eq_true rfl) dX7_mean_16 ?_
    refine z_if_ne (tgt := 24) X dX7_mean_19 (by decide) (fun h12 => ?_) (fun h12 => ?_)
    · have hf := zf h12 hf
      refine z_aload_n X dX7_mean_24 rfl 0 rfl ?_
      refine z_aload_n X dX7_mean_25 rfl 0 rfl ?_
      obtain ⟨r6, h5, hf⟩ := zb1_sp hf
      refine gc_X7_209 (st := [.ref (G.1 60)]) X (mtX7_rowsTogether κ.2.1 κ.2.2.2.2.2.2.2.2.2.2.1 G  h5) rfl rfl (Nat.le_of_ble_eq_true rfl) (Nat.le_of_ble_eq_true rfl) (Nat.le_of_ble_eq_true rfl) dX7_mean_26 ?_
      refine z_aload_n X dX7_mean_29 rfl 0 rfl ?_
      refine gf_X7_200 X dX7_mean_30 ?_
      refine z_bipush (v := (53 : Int32)) X dX7_mean_33 (by decide) ?_
      obtain ⟨M8, F9, h7, hf⟩ := zb2_sp hf
      refine gc_X7_228 (st := []) X (mtX7_nearest κ.2.1 κ.2.2.2.2.2.2.2.2.2.2.1 G  h7) rfl rfl (Nat.le_of_ble_eq_true rfl) (Nat.le_of_ble_eq_true rfl) (Nat.le_of_ble_eq_true rfl) dX7_mean_35 ?_
      refine z_aload_n X dX7_mean_38 rfl 0 rfl ?_
      refine z_bipush (v := (53 : Int32)) X dX7_mean_39 (by decide) ?_
      refine z_sipush (v := (1023 : Int32)) X dX7_mean_41 (by decide) ?_
      obtain ⟨r11, h10, hf⟩ := zb1_sp hf
      refine gc_X7_231 (st := []) X (mtX7_bits κ.2.1 κ.2.2.2.2.2.2.2.2.2.2.1 G  h10) rfl rfl (Nat.le_of_ble_eq_true rfl) (Nat.le_of_ble_eq_true rfl) (Nat.le_of_ble_eq_true rfl) dX7_mean_44 ?_
      exact z_lret X (zR_lMF hf Z) dX7_mean_47
    · have hf := zt h12 hf
      refine z_lconst (v := (0 : Int64)) X dX7_mean_22 (by decide) ?_
      exact z_lret X (zR_lMF hf Z) dX7_mean_23
  · have hf := zt h13 hf
    refine z_ldc2 (v := (-9223372036854775808 : Int64)) X dX7_mean_11 (List.mem_cons_of_mem _ zw_9_4) ?_
    exact z_lret X (zR_lMF hf Z) dX7_mean_14
set_option maxHeartbeats 4000000 in
set_option maxRecDepth 100000 in
theorem mtX7_rest (l : Launch) (D : va_G) (G : zG) {M : zMem} {F : Int64} {ro : Int64} {Mo : zMem} {Fo : Int64} (hf : fX7_rest M F = some (ro, Mo, Fo)) : zCM l yX7_rest wX7_rest { frames := 6, cells := 0, slots := 0, locals := 136 } D G [.ref (G.1 60)] M F (some (.long ro)) Mo Fo := by
  refine zCM.ofV (own := RX7) (cc := cX7_rest) (maxL := 1) (ret := (some .long)) (lv := [(0, .ref (G.1 60))]) (by decide) rfl rfl (Nat.le_of_ble_eq_true rfl) rfl (fun κ X Z hm hκ1 hκ2 => ?_)
  subst hκ1 hκ2
  unfold fX7_rest at hf
  refine z_aload_n X dX7_rest_0 rfl 0 rfl ?_
  obtain ⟨M2, h1, hf⟩ := zb1_sp hf
  refine gc_X7_215 (st := []) X (mtX7_findBaseline κ.2.1 κ.2.2.2.2.2.2.2.2.2.2.1 G  h1) rfl rfl (Nat.le_of_ble_eq_true rfl) (Nat.le_of_ble_eq_true rfl) (Nat.le_of_ble_eq_true rfl) dX7_rest_1 ?_
  refine z_aload_n X dX7_rest_4 rfl 0 rfl ?_
  refine gf_X7_200 X dX7_rest_5 ?_
  refine z_if_ne (tgt := 15) X dX7_rest_8 (by decide) (fun h31 => ?_) (fun h31 => ?_)
  · have hf := zf h31 hf
    refine z_aload_n X dX7_rest_15 rfl 0 rfl ?_
    obtain ⟨r4, h3, hf⟩ := zb1_sp hf
    refine gc_X7_209 (st := []) X (mtX7_rowsTogether κ.2.1 κ.2.2.2.2.2.2.2.2.2.2.1 G  h3) rfl rfl (Nat.le_of_ble_eq_true rfl) (Nat.le_of_ble_eq_true rfl) (Nat.le_of_ble_eq_true rfl) dX7_rest_16 ?_
    refine z_if_ne (tgt := 24) X dX7_rest_19 (by decide) (fun h30 => ?_) (fun h30 => ?_)
    · have hf := zf h30 hf
      refine z_aload_n X dX7_rest_24 rfl 0 rfl ?_
      refine z_aload_n X dX7_rest_25 rfl 0 rfl ?_
      obtain ⟨r6, h5, hf⟩ := zb1_sp hf
      refine gc_X7_209 (st := [.ref (G.1 60)]) X (mtX7_rowsTogether κ.2.1 κ.2.2.2.2.2.2.2.2.2.2.1 G  h5) rfl rfl (Nat.le_of_ble_eq_true rfl) (Nat.le_of_ble_eq_true rfl) (Nat.le_of_ble_eq_true rfl) dX7_rest_26 ?_
      refine z_aload_n X dX7_rest_29 rfl 0 rfl ?_
      refine gf_X7_200 X dX7_rest_30 ?_
      refine z_bipush (v := (53 : Int32)) X dX7_rest_33 (by decide) ?_
      obtain ⟨M8, F9, h7, hf⟩ := zb2_sp hf
      refine gc_X7_228 (st := []) X (mtX7_nearest κ.2.1 κ.2.2.2.2.2.2.2.2.2.2.1 G  h7) rfl rfl (Nat.le_of_ble_eq_true rfl) (Nat.le_of_ble_eq_true rfl) (Nat.le_of_ble_eq_true rfl) dX7_rest_35 ?_
      refine z_aload_n X dX7_rest_38 rfl 0 rfl ?_
      refine z_dup X dX7_rest_39 rfl ?_
      refine gf_X7_224 X dX7_rest_40 ?_
      refine z_lconst (v := (1 : Int64)) X dX7_rest_43 (by decide) ?_
      refine z_aload_n X dX7_rest_44 rfl 0 rfl ?_
      refine gf_X7_221 X dX7_rest_45 ?_
      refine z_ineg X dX7_rest_48 ?_
      refine z_lshl X dX7_rest_49 ?_
      obtain ⟨h10, hf⟩ := zc_sp hf
      refine z_lrem X dX7_rest_50 (of_decide_eq_true h10) ?_
      refine pf_X7_224 X dX7_rest_51 ?_
      refine z_nmF hf (fun F11 hf => ?_)
      refine z_aload_n X dX7_rest_54 rfl 0 rfl ?_
      refine gf_X7_224 X dX7_rest_55 ?_
      refine z_lconst (v := (0 : Int64)) X dX7_rest_58 (by decide) ?_
      refine z_lcmp X dX7_rest_59 ?_
      refine z_if_ne (tgt := 65) X dX7_rest_60 (by decide) (fun h29 => ?_) (fun h29 => ?_)
      · have hf := zf h29 hf
        obtain ⟨b19, hb20, hf⟩ := zb1_sp hf
        have hX14 : ∀ t, t = b19 → zu2 (fun (M24 : zMem) (F25 : Int64) => zV κ G 101 [(0, .ref (G.1 60))] [] M24 F25) t := by
          intro t ht
          subst ht
          obtain ⟨M24, F25⟩ := t
          show zV κ G 101 [(0, .ref (G.1 60))] [] M24 F25
          refine z_aload_n X dX7_rest_101 rfl 0 rfl ?_
          refine z_bipush (v := (53 : Int32)) X dX7_rest_102 (by decide) ?_
          refine z_sipush (v := (1023 : Int32)) X dX7_rest_104 (by decide) ?_
          obtain ⟨r27, h26, hf⟩ := zb1_sp hf
          refine gc_X7_231 (st := []) X (mtX7_bits κ.2.1 κ.2.2.2.2.2.2.2.2.2.2.1 G  h26) rfl rfl (Nat.le_of_ble_eq_true rfl) (Nat.le_of_ble_eq_true rfl) (Nat.le_of_ble_eq_true rfl) dX7_rest_107 ?_
          exact z_lret X (zR_lMF hf Z) dX7_rest_110
        refine zlp_walk (P := zu2 (fun (M12 : zMem) (F13 : Int64) => zV κ G 65 [(0, .ref (G.1 60))] [] M12 F13)) (fun a28 w18 hf hi16 hx17 => ?_) _ _ hb20
        obtain ⟨M12, F13⟩ := a28
        show zV κ G 65 [(0, .ref (G.1 60))] [] M12 F13
        replace hf : fX7_rest_L65 M12 F13 = some w18 := hf
        unfold fX7_rest_L65 at hf
        refine z_aload_n X dX7_rest_65 rfl 0 rfl ?_
        refine gf_X7_224 X dX7_rest_66 ?_
        refine z_ldc2 (v := (4503599627370496 : Int64)) X dX7_rest_69 (List.mem_cons_of_mem _ zw_35_16) ?_
        refine z_lcmp X dX7_rest_72 ?_
        refine z_if_ge (tgt := 101) X dX7_rest_73 (by decide) (fun h23 => ?_) (fun h23 => ?_)
        · have hf := zt h23 hf
          have hq := hX14 _ (hx17 _ (Option.some.inj hf).symm)
          exact hq
        · have hf := zf h23 hf
          refine z_aload_n X dX7_rest_76 rfl 0 rfl ?_
          refine z_dup X dX7_rest_77 rfl ?_
          refine gf_X7_224 X dX7_rest_78 ?_
          refine z_ldc2 (v := (2 : Int64)) X dX7_rest_81 (List.mem_cons_of_mem _ zw_9_5) ?_
          refine z_lmul X dX7_rest_84 ?_
          refine pf_X7_224 X dX7_rest_85 ?_
          refine z_nmF hf (fun F21 hf => ?_)
          refine z_aload_n X dX7_rest_88 rfl 0 rfl ?_
          refine z_dup X dX7_rest_89 rfl ?_
          refine gf_X7_221 X dX7_rest_90 ?_
          refine z_iconst (v := (1 : Int32)) X dX7_rest_93 (by decide) ?_
          refine z_isub X dX7_rest_94 ?_
          refine pf_X7_221 X dX7_rest_95 ?_
          refine z_nmM hf (fun M22 hf => ?_)
          refine z_goto (tgt := 65) X dX7_rest_98 (by decide) ?_
          have hq := hi16 _ (Option.some.inj hf).symm
          exact hq
      · have hf := zt h29 hf
        refine z_lconst (v := (0 : Int64)) X dX7_rest_63 (by decide) ?_
        exact z_lret X (zR_lMF hf Z) dX7_rest_64
    · have hf := zt h30 hf
      refine z_lconst (v := (0 : Int64)) X dX7_rest_22 (by decide) ?_
      exact z_lret X (zR_lMF hf Z) dX7_rest_23
  · have hf := zt h31 hf
    refine z_ldc2 (v := (-9223372036854775808 : Int64)) X dX7_rest_11 (List.mem_cons_of_mem _ zw_9_4) ?_
    exact z_lret X (zR_lMF hf Z) dX7_rest_14
set_option maxHeartbeats 4000000 in
set_option maxRecDepth 100000 in
theorem mtX7_slope (l : Launch) (D : va_G) (G : zG) {M : zMem} {F : Int64} {ro : Int32} {Mo : zMem} {Fo : Int64} (hf : fX7_slope M F = some (ro, Mo, Fo)) : zCM l yX7_slope wX7_slope { frames := 6, cells := 0, slots := 0, locals := 136 } D G [.ref (G.1 60)] M F (some (.int ro)) Mo Fo := by
  refine zCM.ofV (own := RX7) (cc := cX7_slope) (maxL := 8) (ret := (some .int)) (lv := [(0, .ref (G.1 60))]) (by decide) rfl rfl (Nat.le_of_ble_eq_true rfl) rfl (fun κ X Z hm hκ1 hκ2 => ?_)
  subst hκ1 hκ2
  unfold fX7_slope at hf
  refine z_aload_n X dX7_slope_0 rfl 0 rfl ?_
  obtain ⟨M2, h1, hf⟩ := zb1_sp hf
  refine gc_X7_215 (st := []) X (mtX7_findBaseline κ.2.1 κ.2.2.2.2.2.2.2.2.2.2.1 G  h1) rfl rfl (Nat.le_of_ble_eq_true rfl) (Nat.le_of_ble_eq_true rfl) (Nat.le_of_ble_eq_true rfl) dX7_slope_1 ?_
  refine z_aload_n X dX7_slope_4 rfl 0 rfl ?_
  refine gf_X7_200 X dX7_slope_5 ?_
  refine z_iconst (v := (2 : Int32)) X dX7_slope_8 (by decide) ?_
  refine z_icmp_ge (tgt := 15) X dX7_slope_9 (by decide) (fun h39 => ?_) (fun h39 => ?_)
  · have hf := zt h39 hf
    refine z_aload_n X dX7_slope_15 rfl 0 rfl ?_
    refine gf_X7_200 X dX7_slope_16 ?_
    refine z_nmI hf (fun x3 hf => ?_)
    refine z_istore_n (lv' := [(1, .int x3), (0, .ref (G.1 60))]) X dX7_slope_19 rfl hm (by decide) rfl ?_
    refine z_iconst (v := (0 : Int32)) X dX7_slope_20 (by decide) ?_
    refine z_istore_n (lv' := [(2, .int (0 : Int32)), (1, .int x3), (0, .ref (G.1 60))]) X dX7_slope_21 rfl hm (by decide) rfl ?_
    refine z_iconst (v := (0 : Int32)) X dX7_slope_22 (by decide) ?_
    refine z_istore_n (lv' := [(3, .int (0 : Int32)), (2, .int (0 : Int32)), (1, .int x3), (0, .ref (G.1 60))]) X dX7_slope_23 rfl hm (by decide) rfl ?_
    refine z_iconst (v := (0 : Int32)) X dX7_slope_24 (by decide) ?_
    refine z_istore (lv' := [(4, .int (0 : Int32)), (3, .int (0 : Int32)), (2, .int (0 : Int32)), (1, .int x3), (0, .ref (G.1 60))]) X dX7_slope_25 hm (by decide) rfl ?_
    refine z_iconst (v := (0 : Int32)) X dX7_slope_27 (by decide) ?_
    refine z_istore (lv' := [(5, .int (0 : Int32)), (4, .int (0 : Int32)), (3, .int (0 : Int32)), (2, .int (0 : Int32)), (1, .int x3), (0, .ref (G.1 60))]) X dX7_slope_28 hm (by decide) rfl ?_
    obtain ⟨b13, hb14, hf⟩ := zb1_sp hf
    have hX8 : ∀ t, t = b13 → zu4 (fun (x21 : Int32) (x22 : Int32) (x23 : Int32) (x24 : Int32) => zV κ G 79 [(5, .int x21), (4, .int x22), (3, .int x23), (2, .int x24), (1, .int x3), (0, .ref (G.1 60))] [] M2 F) t := by
      intro t ht
      subst ht
      obtain ⟨x21, x22, x23, x24⟩ := t
      show zV κ G 79 [(5, .int x21), (4, .int x22), (3, .int x23), (2, .int x24), (1, .int x3), (0, .ref (G.1 60))] [] M2 F
      refine z_iload_n X dX7_slope_79 rfl 4 rfl ?_
      refine z_iload_n X dX7_slope_80 rfl 2 rfl ?_
      refine z_imul X dX7_slope_81 ?_
      refine z_iload_n X dX7_slope_82 rfl 3 rfl ?_
      refine z_aload_n X dX7_slope_83 rfl 5 rfl ?_
      obtain ⟨r26, h25, hf⟩ := zb1_sp hf
      refine gc_X7_209 (st := [.int x24, .int (x3 * x23)]) X (mtX7_rowsTogether κ.2.1 κ.2.2.2.2.2.2.2.2.2.2.1 G  h25) rfl rfl (Nat.le_of_ble_eq_true rfl) (Nat.le_of_ble_eq_true rfl) (Nat.le_of_ble_eq_true rfl) dX7_slope_84 ?_
      refine z_imul X dX7_slope_87 ?_
      refine z_isub X dX7_slope_88 ?_
      refine z_nmI hf (fun x27 hf => ?_)
      refine z_istore (lv' := [(5, .int x27), (4, .int x22), (3, .int x23), (2, .int x24), (1, .int x3), (0, .ref (G.1 60))]) X dX7_slope_89 hm (by decide) rfl ?_
      refine z_iload_n X dX7_slope_91 rfl 4 rfl ?_
      refine z_iload X dX7_slope_92 1 rfl ?_
      refine z_imul X dX7_slope_94 ?_
      refine z_iload_n X dX7_slope_95 rfl 3 rfl ?_
      refine z_iload_n X dX7_slope_96 rfl 3 rfl ?_
      refine z_imul X dX7_slope_97 ?_
      refine z_isub X dX7_slope_98 ?_
      refine z_nmI hf (fun x28 hf => ?_)
      refine z_istore (lv' := [(6, .int x28), (5, .int x27), (4, .int x22), (3, .int x23), (2, .int x24), (1, .int x3), (0, .ref (G.1 60))]) X dX7_slope_99 hm (by decide) rfl ?_
      refine z_iload X dX7_slope_101 1 rfl ?_
      refine z_if_ne (tgt := 108) X dX7_slope_103 (by decide) (fun h37 => ?_) (fun h37 => ?_)
      · have hf := zf h37 hf
        refine z_aload_n X dX7_slope_108 rfl 6 rfl ?_
        refine z_iload X dX7_slope_109 1 rfl ?_
        have hj : zV κ G 122 [(6, .int x28), (5, .int x27), (4, .int x22), (3, .int x23), (2, .int x24), (1, .int x3), (0, .ref (G.1 60))] [.int (if 0 ≤ x27 then x27 else (-x27)), .ref (G.1 60)] M2 F := by
          refine z_iload X dX7_slope_122 0 rfl ?_
          refine z_bipush (v := (24 : Int32)) X dX7_slope_124 (by decide) ?_
          obtain ⟨M31, F32, h30, hf⟩ := zb2_sp hf
          refine gc_X7_228 (st := []) X (mtX7_nearest κ.2.1 κ.2.2.2.2.2.2.2.2.2.2.1 G  h30) rfl rfl (Nat.le_of_ble_eq_true rfl) (Nat.le_of_ble_eq_true rfl) (Nat.le_of_ble_eq_true rfl) dX7_slope_126 ?_
          refine z_aload_n X dX7_slope_129 rfl 6 rfl ?_
          refine z_bipush (v := (24 : Int32)) X dX7_slope_130 (by decide) ?_
          refine z_bipush (v := (127 : Int32)) X dX7_slope_132 (by decide) ?_
          obtain ⟨r34, h33, hf⟩ := zb1_sp hf
          refine gc_X7_231 (st := []) X (mtX7_bits κ.2.1 κ.2.2.2.2.2.2.2.2.2.2.1 G  h33) rfl rfl (Nat.le_of_ble_eq_true rfl) (Nat.le_of_ble_eq_true rfl) (Nat.le_of_ble_eq_true rfl) dX7_slope_134 ?_
          refine z_l2i X dX7_slope_137 ?_
          refine z_nmI hf (fun x35 hf => ?_)
          refine z_istore (lv' := [(7, .int x35), (6, .int x28), (5, .int x27), (4, .int x22), (3, .int x23), (2, .int x24), (1, .int x3), (0, .ref (G.1 60))]) X dX7_slope_138 hm (by decide) rfl ?_
          refine z_iload X dX7_slope_140 2 rfl ?_
          have hj : zV κ G 155 [(7, .int x35), (6, .int x28), (5, .int x27), (4, .int x22), (3, .int x23), (2, .int x24), (1, .int x3), (0, .ref (G.1 60))] [.int (if 0 ≤ x27 then x35 else (x35 ||| (-2147483648 : Int32)))] M31 F32 := by
            exact z_iret X (zR_iMF hf Z) dX7_slope_155
          refine z_if_ge (tgt := 153) X dX7_slope_142 (by decide) (fun h36 => ?_) (fun h36 => ?_)
          · try simp only [if_pos h36] at hj
            refine z_iload X dX7_slope_153 0 rfl ?_
            exact hj
          · try simp only [if_neg h36] at hj
            refine z_iload X dX7_slope_145 0 rfl ?_
            refine z_ldc (v := (-2147483648 : Int32)) X dX7_slope_147 (List.mem_cons_of_mem _ zw_36_12) ?_
            refine z_ior X dX7_slope_149 ?_
            refine z_goto (tgt := 155) X dX7_slope_150 (by decide) ?_
            exact hj
        refine z_if_ge (tgt := 120) X dX7_slope_111 (by decide) (fun h29 => ?_) (fun h29 => ?_)
        · try simp only [if_pos h29] at hj
          refine z_iload X dX7_slope_120 1 rfl ?_
          exact hj
        · try simp only [if_neg h29] at hj
          refine z_iload X dX7_slope_114 1 rfl ?_
          refine z_ineg X dX7_slope_116 ?_
          refine z_goto (tgt := 122) X dX7_slope_117 (by decide) ?_
          exact hj
      · have hf := zt h37 hf
        refine z_iconst (v := (0 : Int32)) X dX7_slope_106 (by decide) ?_
        exact z_iret X (zR_iMF hf Z) dX7_slope_107
    refine zlp_walk (P := zu4 (fun (x4 : Int32) (x5 : Int32) (x6 : Int32) (x7 : Int32) => zV κ G 30 [(5, .int x4), (4, .int x5), (3, .int x6), (2, .int x7), (1, .int x3), (0, .ref (G.1 60))] [] M2 F)) (fun a38 w12 hf hi10 hx11 => ?_) _ _ hb14
    obtain ⟨x4, x5, x6, x7⟩ := a38
    show zV κ G 30 [(5, .int x4), (4, .int x5), (3, .int x6), (2, .int x7), (1, .int x3), (0, .ref (G.1 60))] [] M2 F
    replace hf : fX7_slope_L30 M2 x3 x4 x5 x6 x7 = some w12 := hf
    unfold fX7_slope_L30 at hf
    refine z_iload X dX7_slope_30 0 rfl ?_
    refine z_iload_n X dX7_slope_32 rfl 4 rfl ?_
    refine z_icmp_ge (tgt := 79) X dX7_slope_33 (by decide) (fun h20 => ?_) (fun h20 => ?_)
    · have hf := zt h20 hf
      have hq := hX8 _ (hx11 _ (Option.some.inj hf).symm)
      exact hq
    · have hf := zf h20 hf
      refine z_aload_n X dX7_slope_36 rfl 5 rfl ?_
      refine gf_X7_203 X dX7_slope_37 ?_
      refine z_iload X dX7_slope_40 0 rfl ?_
      refine z_iadd X dX7_slope_42 ?_
      refine z_nmI hf (fun x15 hf => ?_)
      refine z_istore (lv' := [(6, .int x15), (5, .int x4), (4, .int x5), (3, .int x6), (2, .int x7), (1, .int x3), (0, .ref (G.1 60))]) X dX7_slope_43 hm (by decide) rfl ?_
      refine z_iload_n X dX7_slope_45 rfl 4 rfl ?_
      refine z_iload X dX7_slope_46 0 rfl ?_
      refine z_iadd X dX7_slope_48 ?_
      refine z_nmI hf (fun x16 hf => ?_)
      refine z_istore_n (lv' := [(2, .int x16), (6, .int x15), (5, .int x4), (4, .int x5), (3, .int x6), (1, .int x3), (0, .ref (G.1 60))]) X dX7_slope_49 rfl hm (by decide) rfl ?_
      refine z_iload_n X dX7_slope_50 rfl 4 rfl ?_
      refine z_iload X dX7_slope_51 1 rfl ?_
      refine z_aload_n X dX7_slope_53 rfl 6 rfl ?_
      refine gf_X7_57 X dX7_slope_54 ?_
      refine z_iload X dX7_slope_57 1 rfl ?_
      obtain ⟨h17, hf⟩ := zc_sp hf
      refine z_iald X zc_75 zl_75 (zin_sp h17) dX7_slope_59 ?_
      refine z_imul X dX7_slope_60 ?_
      refine z_iadd X dX7_slope_61 ?_
      refine z_nmI hf (fun x18 hf => ?_)
      refine z_istore_n (lv' := [(3, .int x18), (2, .int x16), (6, .int x15), (5, .int x4), (4, .int x5), (1, .int x3), (0, .ref (G.1 60))]) X dX7_slope_62 rfl hm (by decide) rfl ?_
      refine z_iload X dX7_slope_63 4 rfl ?_
      refine z_iload X dX7_slope_65 2 rfl ?_
      refine z_iload X dX7_slope_67 2 rfl ?_
      refine z_imul X dX7_slope_69 ?_
      refine z_iadd X dX7_slope_70 ?_
      refine z_nmI hf (fun x19 hf => ?_)
      refine z_istore (lv' := [(4, .int x19), (3, .int x18), (2, .int x16), (6, .int x15), (5, .int x4), (1, .int x3), (0, .ref (G.1 60))]) X dX7_slope_71 hm (by decide) rfl ?_
      refine z_iinc (lv' := [(5, .int (x4 + (1 : Int32))), (4, .int x19), (3, .int x18), (2, .int x16), (6, .int x15), (1, .int x3), (0, .ref (G.1 60))]) (v := x4 + (1 : Int32)) X dX7_slope_73 (j := 4) rfl rfl hm (by decide) rfl ?_
      refine z_goto (tgt := 30) X dX7_slope_76 (by decide) ?_
      refine z_sub [0, 1, 2, 3, 5, 6] rfl ?_
      have hq := hi10 _ (Option.some.inj hf).symm
      exact hq
  · have hf := zf h39 hf
    refine z_bipush (v := (-3 : Int32)) X dX7_slope_12 (by decide) ?_
    exact z_iret X (zR_iMF hf Z) dX7_slope_14
set_option maxHeartbeats 4000000 in
set_option maxRecDepth 100000 in
theorem mtX7_fault (l : Launch) (D : va_G) (G : zG) {M : zMem} {F : Int64} {ro : Int32} (hf : fX7_fault M = some ro) : zCM l yX7_fault wX7_fault { frames := 0, cells := 0, slots := 0, locals := 0 } D G [.ref (G.1 60)] M F (some (.int ro)) M F := by
  refine zCM.ofV (own := RX7) (cc := cX7_fault) (maxL := 1) (ret := (some .int)) (lv := [(0, .ref (G.1 60))]) (by decide) rfl rfl (Nat.le_of_ble_eq_true rfl) rfl (fun κ X Z hm hκ1 hκ2 => ?_)
  subst hκ1 hκ2
  unfold fX7_fault at hf
  refine z_aload_n X dX7_fault_0 rfl 0 rfl ?_
  refine gf_X7_63 X dX7_fault_1 ?_
  exact z_iret X (zR_i hf Z) dX7_fault_4
set_option maxHeartbeats 4000000 in
set_option maxRecDepth 100000 in
theorem mtX7_feet (l : Launch) (D : va_G) (G : zG) {M : zMem} {F : Int64} {ro : Int32} (hf : fX7_feet M = some ro) : zCM l yX7_feet wX7_feet { frames := 4, cells := 0, slots := 0, locals := 87 } D G [.ref (G.1 60)] M F (some (.int ro)) M F := by
  refine zCM.ofV (own := RX7) (cc := cX7_feet) (maxL := 4) (ret := (some .int)) (lv := [(0, .ref (G.1 60))]) (by decide) rfl rfl (Nat.le_of_ble_eq_true rfl) rfl (fun κ X Z hm hκ1 hκ2 => ?_)
  subst hκ1 hκ2
  unfold fX7_feet at hf
  refine z_iconst (v := (0 : Int32)) X dX7_feet_0 (by decide) ?_
  refine z_istore_n (lv' := [(1, .int (0 : Int32)), (0, .ref (G.1 60))]) X dX7_feet_1 rfl hm (by decide) rfl ?_
  refine z_iconst (v := (0 : Int32)) X dX7_feet_2 (by decide) ?_
  refine z_istore_n (lv' := [(2, .int (0 : Int32)), (1, .int (0 : Int32)), (0, .ref (G.1 60))]) X dX7_feet_3 rfl hm (by decide) rfl ?_
  obtain ⟨b8, hb9, hf⟩ := zb1_sp hf
  have hX3 : ∀ t, t = b8 → zu2 (fun (x28 : Int32) (x29 : Int32) => zV κ G 49 [(2, .int x28), (1, .int x29), (0, .ref (G.1 60))] [] M F) t := by
    intro t ht
    subst ht
    obtain ⟨x28, x29⟩ := t
    show zV κ G 49 [(2, .int x28), (1, .int x29), (0, .ref (G.1 60))] [] M F
    refine z_iload_n X dX7_feet_49 rfl 1 rfl ?_
    exact z_iret X (zR_i hf Z) dX7_feet_50
  refine zlp_walk (P := zu2 (fun (x1 : Int32) (x2 : Int32) => zV κ G 4 [(2, .int x1), (1, .int x2), (0, .ref (G.1 60))] [] M F)) (fun a30 w7 hf hi5 hx6 => ?_) _ _ hb9
  obtain ⟨x1, x2⟩ := a30
  show zV κ G 4 [(2, .int x1), (1, .int x2), (0, .ref (G.1 60))] [] M F
  replace hf : fX7_feet_L4 M x1 x2 = some w7 := hf
  unfold fX7_feet_L4 at hf
  refine z_iload_n X dX7_feet_4 rfl 0 rfl ?_
  refine z_aload_n X dX7_feet_5 rfl 2 rfl ?_
  refine gf_X7_7 X dX7_feet_6 ?_
  refine z_icmp_ge (tgt := 49) X dX7_feet_9 (by decide) (fun h27 => ?_) (fun h27 => ?_)
  · have hf := zt h27 hf
    have hq := hX3 _ (hx6 _ (Option.some.inj hf).symm)
    exact hq
  · have hf := zf h27 hf
    refine z_iconst (v := (0 : Int32)) X dX7_feet_12 (by decide) ?_
    refine z_istore_n (lv' := [(3, .int (0 : Int32)), (2, .int x1), (1, .int x2), (0, .ref (G.1 60))]) X dX7_feet_13 rfl hm (by decide) rfl ?_
    obtain ⟨b17, hb18, hf⟩ := zb1_sp hf
    have hX12 : ∀ t, t = b17 → zu2 (fun (x24 : Int32) (x25 : Int32) => zV κ G 43 [(3, .int x24), (2, .int x1), (1, .int x25), (0, .ref (G.1 60))] [] M F) t := by
      intro t ht
      subst ht
      obtain ⟨x24, x25⟩ := t
      show zV κ G 43 [(3, .int x24), (2, .int x1), (1, .int x25), (0, .ref (G.1 60))] [] M F
      refine z_iinc (lv' := [(2, .int (x1 + (1 : Int32))), (3, .int x24), (1, .int x25), (0, .ref (G.1 60))]) (v := x1 + (1 : Int32)) X dX7_feet_43 (j := 1) rfl rfl hm (by decide) rfl ?_
      refine z_goto (tgt := 4) X dX7_feet_46 (by decide) ?_
      refine z_sub [0, 2, 3] rfl ?_
      have hq := hi5 _ (Option.some.inj hf).symm
      exact hq
    refine zlp_walk (P := zu2 (fun (x10 : Int32) (x11 : Int32) => zV κ G 14 [(3, .int x10), (2, .int x1), (1, .int x11), (0, .ref (G.1 60))] [] M F)) (fun a26 w16 hf hi14 hx15 => ?_) _ _ hb18
    obtain ⟨x10, x11⟩ := a26
    show zV κ G 14 [(3, .int x10), (2, .int x1), (1, .int x11), (0, .ref (G.1 60))] [] M F
    replace hf : fX7_feet_L14 M x1 x10 x11 = some w16 := hf
    unfold fX7_feet_L14 at hf
    refine z_iload_n X dX7_feet_14 rfl 0 rfl ?_
    refine z_bipush (v := (32 : Int32)) X dX7_feet_15 (by decide) ?_
    refine z_icmp_ge (tgt := 43) X dX7_feet_17 (by decide) (fun h23 => ?_) (fun h23 => ?_)
    · have hf := zt h23 hf
      have hq := hX12 _ (hx15 _ (Option.some.inj hf).symm)
      exact hq
    · have hf := zf h23 hf
      refine z_iload_n X dX7_feet_20 rfl 2 rfl ?_
      refine z_aload_n X dX7_feet_21 rfl 3 rfl ?_
      refine z_iload_n X dX7_feet_22 rfl 1 rfl ?_
      refine z_iload_n X dX7_feet_23 rfl 0 rfl ?_
      obtain ⟨r20, h19, hf⟩ := zb1_sp hf
      refine gc_X7_194 (st := [.int x11]) X (mtX7_isFoot κ.2.1 κ.2.2.2.2.2.2.2.2.2.2.1 G  h19) rfl rfl (Nat.le_of_ble_eq_true rfl) (Nat.le_of_ble_eq_true rfl) (Nat.le_of_ble_eq_true rfl) dX7_feet_24 ?_
      have hj : zV κ G 35 [(3, .int x10), (2, .int x1), (1, .int x11), (0, .ref (G.1 60))] [.int (if r20 = 0 then (0 : Int32) else (1 : Int32)), .int x11] M F := by
        refine z_iadd X dX7_feet_35 ?_
        refine z_nmI hf (fun x22 hf => ?_)
        refine z_istore_n (lv' := [(1, .int x22), (3, .int x10), (2, .int x1), (0, .ref (G.1 60))]) X dX7_feet_36 rfl hm (by decide) rfl ?_
        refine z_iinc (lv' := [(3, .int (x10 + (1 : Int32))), (1, .int x22), (2, .int x1), (0, .ref (G.1 60))]) (v := x10 + (1 : Int32)) X dX7_feet_37 (j := 1) rfl rfl hm (by decide) rfl ?_
        refine z_goto (tgt := 14) X dX7_feet_40 (by decide) ?_
        refine z_sub [0, 2, 1, 3] rfl ?_
        have hq := hi14 _ (Option.some.inj hf).symm
        exact hq
      refine z_if_eq (tgt := 34) X dX7_feet_27 (by decide) (fun h21 => ?_) (fun h21 => ?_)
      · try simp only [if_pos h21] at hj
        refine z_iconst (v := (0 : Int32)) X dX7_feet_34 (by decide) ?_
        exact hj
      · try simp only [if_neg h21] at hj
        refine z_iconst (v := (1 : Int32)) X dX7_feet_30 (by decide) ?_
        refine z_goto (tgt := 35) X dX7_feet_31 (by decide) ?_
        exact hj
set_option maxHeartbeats 4000000 in
set_option maxRecDepth 100000 in
theorem mtX7_many (l : Launch) (D : va_G) (G : zG) {p1 : Int32} {M : zMem} {F : Int64} {ro : Int32} {Mo : zMem} (hf : fX7_many p1 M = some (ro, Mo)) : zCM l yX7_many wX7_many { frames := 5, cells := 0, slots := 0, locals := 110 } D G [.ref (G.1 60), .int p1] M F (some (.int ro)) Mo F := by
  refine zCM.ofV (own := RX7) (cc := cX7_many) (maxL := 4) (ret := (some .int)) (lv := [(0, .ref (G.1 60)), (1, .int p1)]) (by decide) rfl rfl (Nat.le_of_ble_eq_true rfl) rfl (fun κ X Z hm hκ1 hκ2 => ?_)
  subst hκ1 hκ2
  unfold fX7_many at hf
  refine z_iconst (v := (0 : Int32)) X dX7_many_0 (by decide) ?_
  refine z_istore_n (lv' := [(2, .int (0 : Int32)), (0, .ref (G.1 60)), (1, .int p1)]) X dX7_many_1 rfl hm (by decide) rfl ?_
  refine z_iload_n X dX7_many_2 rfl 2 rfl ?_
  by_cases h1 : p1 = (0 : Int32)
  · have hf := zt h1 hf
    refine z_tableIn (tgt := 44) X dX7_many_3 (by rw [h1]; decide) (by rw [h1]; decide) (by rw [h1]; rfl) (by decide) ?_
    refine z_aload_n X dX7_many_44 rfl 1 rfl ?_
    refine gf_X7_7 X dX7_many_45 ?_
    exact z_iret X (zR_iM hf Z) dX7_many_48
  · have hf := zf h1 hf
    by_cases h2 : p1 = (1 : Int32)
    · have hf := zt h2 hf
      refine z_tableIn (tgt := 49) X dX7_many_3 (by rw [h2]; decide) (by rw [h2]; decide) (by rw [h2]; rfl) (by decide) ?_
      refine z_aload_n X dX7_many_49 rfl 1 rfl ?_
      obtain ⟨r4, h3, hf⟩ := zb1_sp hf
      refine gc_X7_77 (st := []) X (mtX7_inkOf κ.2.1 κ.2.2.2.2.2.2.2.2.2.2.1 G  h3) rfl rfl (Nat.le_of_ble_eq_true rfl) (Nat.le_of_ble_eq_true rfl) (Nat.le_of_ble_eq_true rfl) dX7_many_50 ?_
      exact z_iret X (zR_iM hf Z) dX7_many_53
    · have hf := zf h2 hf
      by_cases h5 : p1 = (2 : Int32)
      · have hf := zt h5 hf
        refine z_tableIn (tgt := 54) X dX7_many_3 (by rw [h5]; decide) (by rw [h5]; decide) (by rw [h5]; rfl) (by decide) ?_
        refine z_aload_n X dX7_many_54 rfl 1 rfl ?_
        obtain ⟨M7, h6, hf⟩ := zb1_sp hf
        refine gc_X7_179 (st := []) X (mtX7_findRuns κ.2.1 κ.2.2.2.2.2.2.2.2.2.2.1 G  h6) rfl rfl (Nat.le_of_ble_eq_true rfl) (Nat.le_of_ble_eq_true rfl) (Nat.le_of_ble_eq_true rfl) dX7_many_55 ?_
        refine z_aload_n X dX7_many_58 rfl 1 rfl ?_
        refine gf_X7_173 X dX7_many_59 ?_
        exact z_iret X (zR_iM hf Z) dX7_many_62
      · have hf := zf h5 hf
        by_cases h8 : p1 = (3 : Int32)
        · have hf := zt h8 hf
          refine z_tableIn (tgt := 63) X dX7_many_3 (by rw [h8]; decide) (by rw [h8]; decide) (by rw [h8]; rfl) (by decide) ?_
          refine z_aload_n X dX7_many_63 rfl 1 rfl ?_
          obtain ⟨M10, h9, hf⟩ := zb1_sp hf
          refine gc_X7_188 (st := []) X (mtX7_findStrokes κ.2.1 κ.2.2.2.2.2.2.2.2.2.2.1 G  h9) rfl rfl (Nat.le_of_ble_eq_true rfl) (Nat.le_of_ble_eq_true rfl) (Nat.le_of_ble_eq_true rfl) dX7_many_64 ?_
          refine z_aload_n X dX7_many_67 rfl 1 rfl ?_
          refine gf_X7_182 X dX7_many_68 ?_
          exact z_iret X (zR_iM hf Z) dX7_many_71
        · have hf := zf h8 hf
          by_cases h11 : p1 = (4 : Int32)
          · have hf := zt h11 hf
            refine z_tableIn (tgt := 72) X dX7_many_3 (by rw [h11]; decide) (by rw [h11]; decide) (by rw [h11]; rfl) (by decide) ?_
            refine z_aload_n X dX7_many_72 rfl 1 rfl ?_
            obtain ⟨r13, h12, hf⟩ := zb1_sp hf
            refine gc_X7_238 (st := []) X (mtX7_feet κ.2.1 κ.2.2.2.2.2.2.2.2.2.2.1 G  h12) rfl rfl (Nat.le_of_ble_eq_true rfl) (Nat.le_of_ble_eq_true rfl) (Nat.le_of_ble_eq_true rfl) dX7_many_73 ?_
            exact z_iret X (zR_iM hf Z) dX7_many_76
          · have hf := zf h11 hf
            by_cases h14 : p1 = (5 : Int32)
            · have hf := zt h14 hf
              refine z_tableIn (tgt := 77) X dX7_many_3 (by rw [h14]; decide) (by rw [h14]; decide) (by rw [h14]; rfl) (by decide) ?_
              refine z_aload_n X dX7_many_77 rfl 1 rfl ?_
              refine gf_X7_81 X dX7_many_78 ?_
              exact z_iret X (zR_iM hf Z) dX7_many_81
            · have hf := zf h14 hf
              by_cases h15 : p1 = (6 : Int32)
              · have hf := zt h15 hf
                refine z_tableIn (tgt := 82) X dX7_many_3 (by rw [h15]; decide) (by rw [h15]; decide) (by rw [h15]; rfl) (by decide) ?_
                refine z_iconst (v := (0 : Int32)) X dX7_many_82 (by decide) ?_
                refine z_istore_n (lv' := [(3, .int (0 : Int32)), (2, .int (0 : Int32)), (0, .ref (G.1 60)), (1, .int p1)]) X dX7_many_83 rfl hm (by decide) rfl ?_
                refine z_sub [0, 1, 2] rfl ?_
                obtain ⟨b23, hb24, hf⟩ := zb1_sp hf
                have hX18 : ∀ t, t = b23 → zu2 (fun (x29 : Int32) (x30 : Int32) => zV κ G 114 [(3, .int x29), (2, .int x30), (0, .ref (G.1 60))] [] M F) t := by
                  intro t ht
                  subst ht
                  obtain ⟨x29, x30⟩ := t
                  show zV κ G 114 [(3, .int x29), (2, .int x30), (0, .ref (G.1 60))] [] M F
                  refine z_iload_n X dX7_many_114 rfl 1 rfl ?_
                  exact z_iret X (zR_iM hf Z) dX7_many_115
                refine zlp_walk (P := zu2 (fun (x16 : Int32) (x17 : Int32) => zV κ G 84 [(3, .int x16), (2, .int x17), (0, .ref (G.1 60))] [] M F)) (fun a31 w22 hf hi20 hx21 => ?_) _ _ hb24
                obtain ⟨x16, x17⟩ := a31
                show zV κ G 84 [(3, .int x16), (2, .int x17), (0, .ref (G.1 60))] [] M F
                replace hf : fX7_many_L84 M x16 x17 = some w22 := hf
                unfold fX7_many_L84 at hf
                refine z_iload_n X dX7_many_84 rfl 0 rfl ?_
                refine z_iconst (v := (4 : Int32)) X dX7_many_85 (by decide) ?_
                refine z_icmp_ge (tgt := 114) X dX7_many_86 (by decide) (fun h28 => ?_) (fun h28 => ?_)
                · have hf := zt h28 hf
                  have hq := hX18 _ (hx21 _ (Option.some.inj hf).symm)
                  exact hq
                · have hf := zf h28 hf
                  refine z_iload_n X dX7_many_89 rfl 1 rfl ?_
                  refine z_aload_n X dX7_many_90 rfl 2 rfl ?_
                  refine gf_X7_17 X dX7_many_91 ?_
                  refine z_iload_n X dX7_many_94 rfl 0 rfl ?_
                  obtain ⟨h25, hf⟩ := zc_sp hf
                  refine z_iald X zc_62 zl_62 (zin_sp h25) dX7_many_95 ?_
                  refine z_bipush (v := (-9 : Int32)) X dX7_many_96 (by decide) ?_
                  have hj : zV κ G 106 [(3, .int x16), (2, .int x17), (0, .ref (G.1 60))] [.int (if (M 62 x16.toNatClampNeg) = (-9 : Int32) then (0 : Int32) else (1 : Int32)), .int x17] M F := by
                    refine z_iadd X dX7_many_106 ?_
                    refine z_nmI hf (fun x27 hf => ?_)
                    refine z_istore_n (lv' := [(2, .int x27), (3, .int x16), (0, .ref (G.1 60))]) X dX7_many_107 rfl hm (by decide) rfl ?_
                    refine z_iinc (lv' := [(3, .int (x16 + (1 : Int32))), (2, .int x27), (0, .ref (G.1 60))]) (v := x16 + (1 : Int32)) X dX7_many_108 (j := 1) rfl rfl hm (by decide) rfl ?_
                    refine z_goto (tgt := 84) X dX7_many_111 (by decide) ?_
                    have hq := hi20 _ (Option.some.inj hf).symm
                    exact hq
                  refine z_icmp_ne (tgt := 105) X dX7_many_98 (by decide) (fun h26 => ?_) (fun h26 => ?_)
                  · try simp only [if_neg h26] at hj
                    refine z_iconst (v := (1 : Int32)) X dX7_many_105 (by decide) ?_
                    exact hj
                  · try simp only [if_pos h26] at hj
                    refine z_iconst (v := (0 : Int32)) X dX7_many_101 (by decide) ?_
                    refine z_goto (tgt := 106) X dX7_many_102 (by decide) ?_
                    exact hj
              · have hf := zf h15 hf
                refine z_tableOut (tgt := 116) X dX7_many_3 (by have q0 := lv_neT h1 (a := 0) rfl; have q1 := lv_neT h2 (a := 1) rfl; have q2 := lv_neT h5 (a := 2) rfl; have q3 := lv_neT h8 (a := 3) rfl; have q4 := lv_neT h11 (a := 4) rfl; have q5 := lv_neT h14 (a := 5) rfl; have q6 := lv_neT h15 (a := 6) rfl; omega) (by decide) ?_
                refine z_bipush (v := (-2 : Int32)) X dX7_many_116 (by decide) ?_
                exact z_iret X (zR_iM hf Z) dX7_many_118
