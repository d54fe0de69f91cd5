set_option maxHeartbeats 4000000 in
set_option maxRecDepth 100000 in
theorem mtX6_profile (l : Launch) (D : va_G) (G : zG) {p1 : Int32} {p2 : Int32} {p3 : Int32} {M : zMem} {F : Int64} {ro : Int32} {Mo : zMem} (hf : fX6_profile p1 p2 p3 M = some (ro, Mo)) : zCM l yX6_profile wX6_profile { frames := 4, cells := 0, slots := 0, locals := 95 } D G [.ref (G.1 0), .int p1, .int p2, .int p3] M F (some (.int ro)) Mo F := by
  refine zCM.ofV (own := RX6) (cc := cX6_profile) (maxL := 4) (ret := (some .int)) (lv := [(0, .ref (G.1 0)), (1, .int p1), (2, .int p2), (3, .int p3)]) (by decide) rfl rfl (Nat.le_of_ble_eq_true rfl) rfl (fun κ X Z hm hκ1 hκ2 => ?_)
  subst hκ1 hκ2
  unfold fX6_profile at hf
  refine z_iload_n X dX6_profile_0 rfl 1 rfl ?_
  obtain ⟨r2, h1, hf⟩ := zb1_sp hf
  refine gc_X6_130 (st := []) X (mtX6_isAxis κ.2.1 κ.2.2.2.2.2.2.2.2.2.2.1 G  h1) rfl rfl (Nat.le_of_ble_eq_true rfl) (Nat.le_of_ble_eq_true rfl) (Nat.le_of_ble_eq_true rfl) dX6_profile_1 ?_
  refine z_if_eq (tgt := 26) X dX6_profile_4 (by decide) (fun h11 => ?_) (fun h11 => ?_)
  · have hf := zt h11 hf
    refine z_bipush (v := (-2 : Int32)) X dX6_profile_26 (by decide) ?_
    exact z_iret X (zR_iM hf Z) dX6_profile_28
  · have hf := zf h11 hf
    refine z_iload_n X dX6_profile_7 rfl 2 rfl ?_
    obtain ⟨r4, h3, hf⟩ := zb1_sp hf
    refine gc_X6_133 (st := []) X (mtX6_isShear κ.2.1 κ.2.2.2.2.2.2.2.2.2.2.1 G  h3) rfl rfl (Nat.le_of_ble_eq_true rfl) (Nat.le_of_ble_eq_true rfl) (Nat.le_of_ble_eq_true rfl) dX6_profile_8 ?_
    refine z_if_eq (tgt := 26) X dX6_profile_11 (by decide) (fun h10 => ?_) (fun h10 => ?_)
    · have hf := zt h10 hf
      refine z_bipush (v := (-2 : Int32)) X dX6_profile_26 (by decide) ?_
      exact z_iret X (zR_iM hf Z) dX6_profile_28
    · have hf := zf h10 hf
      refine z_iload_n X dX6_profile_14 rfl 3 rfl ?_
      refine z_bipush (v := (-99 : Int32)) X dX6_profile_15 (by decide) ?_
      refine z_icmp_lt (tgt := 26) X dX6_profile_17 (by decide) (fun h9 => ?_) (fun h9 => ?_)
      · have hf := zt h9 hf
        refine z_bipush (v := (-2 : Int32)) X dX6_profile_26 (by decide) ?_
        exact z_iret X (zR_iM hf Z) dX6_profile_28
      · have hf := zf h9 hf
        refine z_iload_n X dX6_profile_20 rfl 3 rfl ?_
        refine z_bipush (v := (99 : Int32)) X dX6_profile_21 (by decide) ?_
        refine z_icmp_le (tgt := 29) X dX6_profile_23 (by decide) (fun h8 => ?_) (fun h8 => ?_)
        · have hf := zt h8 hf
          refine z_aload_n X dX6_profile_29 rfl 0 rfl ?_
          refine gf_X6_27 X dX6_profile_30 ?_
          refine z_aload_n X dX6_profile_33 rfl 0 rfl ?_
          refine gf_X6_12 X dX6_profile_34 ?_
          refine z_iload_n X dX6_profile_37 rfl 1 rfl ?_
          refine z_iload_n X dX6_profile_38 rfl 2 rfl ?_
          refine z_iload_n X dX6_profile_39 rfl 3 rfl ?_
          obtain ⟨r6, M7, h5, hf⟩ := zb2_sp hf
          refine gc_X6_140 (st := []) X (mtX3_countAt κ.2.1 κ.2.2.2.2.2.2.2.2.2.2.1 G  h5) rfl rfl (Nat.le_of_ble_eq_true rfl) (Nat.le_of_ble_eq_true rfl) (Nat.le_of_ble_eq_true rfl) dX6_profile_40 ?_
          exact z_iret X (zR_iM hf Z) dX6_profile_43
        · have hf := zf h8 hf
          refine z_bipush (v := (-2 : Int32)) X dX6_profile_26 (by decide) ?_
          exact z_iret X (zR_iM hf Z) dX6_profile_28
set_option maxHeartbeats 4000000 in
set_option maxRecDepth 100000 in
theorem mtX6_sharp (l : Launch) (D : va_G) (G : zG) {p1 : Int32} {p2 : Int32} {M : zMem} {F : Int64} {ro : Int32} {Mo : zMem} (hf : fX6_sharp p1 p2 M = some (ro, Mo)) : zCM l yX6_sharp wX6_sharp { frames := 4, cells := 0, slots := 0, locals := 100 } D G [.ref (G.1 0), .int p1, .int p2] M F (some (.int ro)) Mo F := by
  refine zCM.ofV (own := RX6) (cc := cX6_sharp) (maxL := 3) (ret := (some .int)) (lv := [(0, .ref (G.1 0)), (1, .int p1), (2, .int p2)]) (by decide) rfl rfl (Nat.le_of_ble_eq_true rfl) rfl (fun κ X Z hm hκ1 hκ2 => ?_)
  subst hκ1 hκ2
  unfold fX6_sharp at hf
  refine z_iload_n X dX6_sharp_0 rfl 1 rfl ?_
  obtain ⟨r2, h1, hf⟩ := zb1_sp hf
  refine gc_X6_130 (st := []) X (mtX6_isAxis κ.2.1 κ.2.2.2.2.2.2.2.2.2.2.1 G  h1) rfl rfl (Nat.le_of_ble_eq_true rfl) (Nat.le_of_ble_eq_true rfl) (Nat.le_of_ble_eq_true rfl) dX6_sharp_1 ?_
  refine z_if_eq (tgt := 14) X dX6_sharp_4 (by decide) (fun h9 => ?_) (fun h9 => ?_)
  · have hf := zt h9 hf
    refine z_bipush (v := (-2 : Int32)) X dX6_sharp_14 (by decide) ?_
    exact z_iret X (zR_iM hf Z) dX6_sharp_16
  · have hf := zf h9 hf
    refine z_iload_n X dX6_sharp_7 rfl 2 rfl ?_
    obtain ⟨r4, h3, hf⟩ := zb1_sp hf
    refine gc_X6_133 (st := []) X (mtX6_isShear κ.2.1 κ.2.2.2.2.2.2.2.2.2.2.1 G  h3) rfl rfl (Nat.le_of_ble_eq_true rfl) (Nat.le_of_ble_eq_true rfl) (Nat.le_of_ble_eq_true rfl) dX6_sharp_8 ?_
    refine z_if_ne (tgt := 17) X dX6_sharp_11 (by decide) (fun h8 => ?_) (fun h8 => ?_)
    · have hf := zf h8 hf
      refine z_aload_n X dX6_sharp_17 rfl 0 rfl ?_
      refine gf_X6_27 X dX6_sharp_18 ?_
      refine z_aload_n X dX6_sharp_21 rfl 0 rfl ?_
      refine gf_X6_12 X dX6_sharp_22 ?_
      refine z_iload_n X dX6_sharp_25 rfl 1 rfl ?_
      refine z_iload_n X dX6_sharp_26 rfl 2 rfl ?_
      obtain ⟨r6, M7, h5, hf⟩ := zb2_sp hf
      refine gc_X6_144 (st := []) X (mtX3_sharpness κ.2.1 κ.2.2.2.2.2.2.2.2.2.2.1 G  h5) rfl rfl (Nat.le_of_ble_eq_true rfl) (Nat.le_of_ble_eq_true rfl) (Nat.le_of_ble_eq_true rfl) dX6_sharp_27 ?_
      exact z_iret X (zR_iM hf Z) dX6_sharp_30
    · have hf := zt h8 hf
      refine z_bipush (v := (-2 : Int32)) X dX6_sharp_14 (by decide) ?_
      exact z_iret X (zR_iM hf Z) dX6_sharp_16
set_option maxHeartbeats 4000000 in
set_option maxRecDepth 100000 in
theorem mtX6_best (l : Launch) (D : va_G) (G : zG) {p1 : Int32} {M : zMem} {F : Int64} {ro : Int32} {Mo : zMem} (hf : fX6_best p1 M = some (ro, Mo)) : zCM l yX6_best wX6_best { frames := 6, cells := 0, slots := 0, locals := 147 } D G [.ref (G.1 0), .int p1] M F (some (.int ro)) Mo F := by
  refine zCM.ofV (own := RX6) (cc := cX6_best) (maxL := 2) (ret := (some .int)) (lv := [(0, .ref (G.1 0)), (1, .int p1)]) (by decide) rfl rfl (Nat.le_of_ble_eq_true rfl) rfl (fun κ X Z hm hκ1 hκ2 => ?_)
  subst hκ1 hκ2
  unfold fX6_best at hf
  refine z_iload_n X dX6_best_0 rfl 1 rfl ?_
  obtain ⟨r2, h1, hf⟩ := zb1_sp hf
  refine gc_X6_130 (st := []) X (mtX6_isAxis κ.2.1 κ.2.2.2.2.2.2.2.2.2.2.1 G  h1) rfl rfl (Nat.le_of_ble_eq_true rfl) (Nat.le_of_ble_eq_true rfl) (Nat.le_of_ble_eq_true rfl) dX6_best_1 ?_
  refine z_if_ne (tgt := 10) X dX6_best_4 (by decide) (fun h7 => ?_) (fun h7 => ?_)
  · have hf := zf h7 hf
    refine z_aload_n X dX6_best_10 rfl 0 rfl ?_
    refine gf_X6_27 X dX6_best_11 ?_
    refine z_aload_n X dX6_best_14 rfl 0 rfl ?_
    refine gf_X6_12 X dX6_best_15 ?_
    refine z_iload_n X dX6_best_18 rfl 1 rfl ?_
    obtain ⟨M4, h3, hf⟩ := zb1_sp hf
    refine gc_X6_148 (st := []) X (mtX3_tryAll κ.2.1 κ.2.2.2.2.2.2.2.2.2.2.1 G  h3) rfl rfl (Nat.le_of_ble_eq_true rfl) (Nat.le_of_ble_eq_true rfl) (Nat.le_of_ble_eq_true rfl) dX6_best_19 ?_
    refine z_aload_n X dX6_best_22 rfl 0 rfl ?_
    refine gf_X6_27 X dX6_best_23 ?_
    obtain ⟨r6, h5, hf⟩ := zb1_sp hf
    refine gc_X6_152 (st := []) X (mtX3_sharpest κ.2.1 κ.2.2.2.2.2.2.2.2.2.2.1 G  h5) rfl rfl (Nat.le_of_ble_eq_true rfl) (Nat.le_of_ble_eq_true rfl) (Nat.le_of_ble_eq_true rfl) dX6_best_26 ?_
    refine z_bipush (v := (100 : Int32)) X dX6_best_29 (by decide) ?_
    refine z_iadd X dX6_best_31 ?_
    exact z_iret X (zR_iM hf Z) dX6_best_32
  · have hf := zt h7 hf
    refine z_bipush (v := (-2 : Int32)) X dX6_best_7 (by decide) ?_
    exact z_iret X (zR_iM hf Z) dX6_best_9
set_option maxHeartbeats 4000000 in
set_option maxRecDepth 100000 in
theorem mtX6_found (l : Launch) (D : va_G) (G : zG) {p1 : Int32} {M : zMem} {F : Int64} {ro : Int32} {Mo : zMem} (hf : fX6_found p1 M = some (ro, Mo)) : zCM l yX6_found wX6_found { frames := 6, cells := 0, slots := 0, locals := 148 } D G [.ref (G.1 0), .int p1] M F (some (.int ro)) Mo F := by
  refine zCM.ofV (own := RX6) (cc := cX6_found) (maxL := 2) (ret := (some .int)) (lv := [(0, .ref (G.1 0)), (1, .int p1)]) (by decide) rfl rfl (Nat.le_of_ble_eq_true rfl) rfl (fun κ X Z hm hκ1 hκ2 => ?_)
  subst hκ1 hκ2
  unfold fX6_found at hf
  refine z_iload_n X dX6_found_0 rfl 1 rfl ?_
  obtain ⟨r2, h1, hf⟩ := zb1_sp hf
  refine gc_X6_130 (st := []) X (mtX6_isAxis κ.2.1 κ.2.2.2.2.2.2.2.2.2.2.1 G  h1) rfl rfl (Nat.le_of_ble_eq_true rfl) (Nat.le_of_ble_eq_true rfl) (Nat.le_of_ble_eq_true rfl) dX6_found_1 ?_
  refine z_if_ne (tgt := 10) X dX6_found_4 (by decide) (fun h7 => ?_) (fun h7 => ?_)
  · have hf := zf h7 hf
    refine z_aload_n X dX6_found_10 rfl 0 rfl ?_
    refine gf_X6_27 X dX6_found_11 ?_
    refine z_aload_n X dX6_found_14 rfl 0 rfl ?_
    refine gf_X6_12 X dX6_found_15 ?_
    refine z_iload_n X dX6_found_18 rfl 1 rfl ?_
    obtain ⟨M4, h3, hf⟩ := zb1_sp hf
    refine gc_X6_155 (st := []) X (mtX3_search κ.2.1 κ.2.2.2.2.2.2.2.2.2.2.1 G  h3) rfl rfl (Nat.le_of_ble_eq_true rfl) (Nat.le_of_ble_eq_true rfl) (Nat.le_of_ble_eq_true rfl) dX6_found_19 ?_
    refine z_aload_n X dX6_found_22 rfl 0 rfl ?_
    refine gf_X6_27 X dX6_found_23 ?_
    obtain ⟨r6, h5, hf⟩ := zb1_sp hf
    refine gc_X6_152 (st := []) X (mtX3_sharpest κ.2.1 κ.2.2.2.2.2.2.2.2.2.2.1 G  h5) rfl rfl (Nat.le_of_ble_eq_true rfl) (Nat.le_of_ble_eq_true rfl) (Nat.le_of_ble_eq_true rfl) dX6_found_26 ?_
    refine z_bipush (v := (100 : Int32)) X dX6_found_29 (by decide) ?_
    refine z_iadd X dX6_found_31 ?_
    exact z_iret X (zR_iM hf Z) dX6_found_32
  · have hf := zt h7 hf
    refine z_bipush (v := (-2 : Int32)) X dX6_found_7 (by decide) ?_
    exact z_iret X (zR_iM hf Z) dX6_found_9
set_option maxHeartbeats 4000000 in
set_option maxRecDepth 100000 in
theorem mtX6_tried (l : Launch) (D : va_G) (G : zG) {p1 : Int32} {p2 : Int32} {M : zMem} {F : Int64} {ro : Int32} {Mo : zMem} (hf : fX6_tried p1 p2 M = some (ro, Mo)) : zCM l yX6_tried wX6_tried { frames := 6, cells := 0, slots := 0, locals := 148 } D G [.ref (G.1 0), .int p1, .int p2] M F (some (.int ro)) Mo F := by
  refine zCM.ofV (own := RX6) (cc := cX6_tried) (maxL := 3) (ret := (some .int)) (lv := [(0, .ref (G.1 0)), (1, .int p1), (2, .int p2)]) (by decide) rfl rfl (Nat.le_of_ble_eq_true rfl) rfl (fun κ X Z hm hκ1 hκ2 => ?_)
  subst hκ1 hκ2
  unfold fX6_tried at hf
  refine z_iload_n X dX6_tried_0 rfl 1 rfl ?_
  obtain ⟨r2, h1, hf⟩ := zb1_sp hf
  refine gc_X6_130 (st := []) X (mtX6_isAxis κ.2.1 κ.2.2.2.2.2.2.2.2.2.2.1 G  h1) rfl rfl (Nat.le_of_ble_eq_true rfl) (Nat.le_of_ble_eq_true rfl) (Nat.le_of_ble_eq_true rfl) dX6_tried_1 ?_
  refine z_if_eq (tgt := 17) X dX6_tried_4 (by decide) (fun h15 => ?_) (fun h15 => ?_)
  · have hf := zt h15 hf
    refine z_bipush (v := (-2 : Int32)) X dX6_tried_17 (by decide) ?_
    exact z_iret X (zR_iM hf Z) dX6_tried_19
  · have hf := zf h15 hf
    refine z_iload_n X dX6_tried_7 rfl 2 rfl ?_
    refine z_if_lt (tgt := 17) X dX6_tried_8 (by decide) (fun h14 => ?_) (fun h14 => ?_)
    · have hf := zt h14 hf
      refine z_bipush (v := (-2 : Int32)) X dX6_tried_17 (by decide) ?_
      exact z_iret X (zR_iM hf Z) dX6_tried_19
    · have hf := zf h14 hf
      refine z_iload_n X dX6_tried_11 rfl 2 rfl ?_
      refine z_bipush (v := (32 : Int32)) X dX6_tried_12 (by decide) ?_
      refine z_icmp_le (tgt := 20) X dX6_tried_14 (by decide) (fun h13 => ?_) (fun h13 => ?_)
      · have hf := zt h13 hf
        refine z_aload_n X dX6_tried_20 rfl 0 rfl ?_
        refine gf_X6_27 X dX6_tried_21 ?_
        refine z_aload_n X dX6_tried_24 rfl 0 rfl ?_
        refine gf_X6_12 X dX6_tried_25 ?_
        refine z_iload_n X dX6_tried_28 rfl 1 rfl ?_
        obtain ⟨M4, h3, hf⟩ := zb1_sp hf
        refine gc_X6_155 (st := []) X (mtX3_search κ.2.1 κ.2.2.2.2.2.2.2.2.2.2.1 G  h3) rfl rfl (Nat.le_of_ble_eq_true rfl) (Nat.le_of_ble_eq_true rfl) (Nat.le_of_ble_eq_true rfl) dX6_tried_29 ?_
        refine z_iload_n X dX6_tried_32 rfl 2 rfl ?_
        refine z_aload_n X dX6_tried_33 rfl 0 rfl ?_
        refine gf_X6_27 X dX6_tried_34 ?_
        obtain ⟨r6, h5, hf⟩ := zb1_sp hf
        refine gc_X6_158 (st := [.int p2]) X (mtX3_attempts κ.2.1 κ.2.2.2.2.2.2.2.2.2.2.1 G  h5) rfl rfl (Nat.le_of_ble_eq_true rfl) (Nat.le_of_ble_eq_true rfl) (Nat.le_of_ble_eq_true rfl) dX6_tried_37 ?_
        obtain ⟨k8, k8e, hf⟩ := zj_sp hf
        have hj9 : ∀ (x7 : Int32), k8 x7 = some (ro, Mo) → zV κ G 59 [(0, .ref (G.1 0)), (1, .int p1), (2, .int p2)] [.int x7] M4 F := by
          intro x7 hf
          rw [k8e] at hf
          exact z_iret X (zR_iM hf Z) dX6_tried_59
        clear k8e
        refine z_icmp_ge (tgt := 57) X dX6_tried_40 (by decide) (fun h12 => ?_) (fun h12 => ?_)
        · have hf := zt h12 hf
          refine z_bipush (v := (-9 : Int32)) X dX6_tried_57 (by decide) ?_
          exact hj9 (-9 : Int32) hf
        · have hf := zf h12 hf
          refine z_aload_n X dX6_tried_43 rfl 0 rfl ?_
          refine gf_X6_27 X dX6_tried_44 ?_
          refine z_iload_n X dX6_tried_47 rfl 2 rfl ?_
          obtain ⟨r11, h10, hf⟩ := zb1_sp hf
          refine gc_X6_161 (st := []) X (mtX3_attempt κ.2.1 κ.2.2.2.2.2.2.2.2.2.2.1 G  h10) rfl rfl (Nat.le_of_ble_eq_true rfl) (Nat.le_of_ble_eq_true rfl) (Nat.le_of_ble_eq_true rfl) dX6_tried_48 ?_
          refine z_bipush (v := (100 : Int32)) X dX6_tried_51 (by decide) ?_
          refine z_iadd X dX6_tried_53 ?_
          refine z_goto (tgt := 59) X dX6_tried_54 (by decide) ?_
          exact hj9 (r11 + (100 : Int32)) hf
      · have hf := zf h13 hf
        refine z_bipush (v := (-2 : Int32)) X dX6_tried_17 (by decide) ?_
        exact z_iret X (zR_iM hf Z) dX6_tried_19
set_option maxHeartbeats 4000000 in
set_option maxRecDepth 100000 in
theorem mtX6_shear (l : Launch) (D : va_G) (G : zG) {p1 : Int32} {p2 : Int32} {M : zMem} {F : Int64} {ro : Int32} {Mo : zMem} (hf : fX6_shear p1 p2 M = some (ro, Mo)) : zCM l yX6_shear wX6_shear { frames := 4, cells := 0, slots := 0, locals := 89 } D G [.ref (G.1 0), .int p1, .int p2] M F (some (.int ro)) Mo F := by
  refine zCM.ofV (own := RX6) (cc := cX6_shear) (maxL := 5) (ret := (some .int)) (lv := [(0, .ref (G.1 0)), (1, .int p1), (2, .int p2)]) (by decide) rfl rfl (Nat.le_of_ble_eq_true rfl) rfl (fun κ X Z hm hκ1 hκ2 => ?_)
  subst hκ1 hκ2
  unfold fX6_shear at hf
  refine z_iload_n X dX6_shear_0 rfl 1 rfl ?_
  obtain ⟨r2, h1, hf⟩ := zb1_sp hf
  refine gc_X6_130 (st := []) X (mtX6_isAxis κ.2.1 κ.2.2.2.2.2.2.2.2.2.2.1 G  h1) rfl rfl (Nat.le_of_ble_eq_true rfl) (Nat.le_of_ble_eq_true rfl) (Nat.le_of_ble_eq_true rfl) dX6_shear_1 ?_
  refine z_if_eq (tgt := 14) X dX6_shear_4 (by decide) (fun h40 => ?_) (fun h40 => ?_)
  · have hf := zt h40 hf
    refine z_bipush (v := (-2 : Int32)) X dX6_shear_14 (by decide) ?_
    exact z_iret X (zR_iM hf Z) dX6_shear_16
  · have hf := zf h40 hf
    refine z_iload_n X dX6_shear_7 rfl 2 rfl ?_
    obtain ⟨r4, h3, hf⟩ := zb1_sp hf
    refine gc_X6_133 (st := []) X (mtX6_isShear κ.2.1 κ.2.2.2.2.2.2.2.2.2.2.1 G  h3) rfl rfl (Nat.le_of_ble_eq_true rfl) (Nat.le_of_ble_eq_true rfl) (Nat.le_of_ble_eq_true rfl) dX6_shear_8 ?_
    refine z_if_ne (tgt := 17) X dX6_shear_11 (by decide) (fun h39 => ?_) (fun h39 => ?_)
    · have hf := zf h39 hf
      refine z_iload_n X dX6_shear_17 rfl 1 rfl ?_
      obtain ⟨k6, k6e, hf⟩ := zj_sp hf
      have hj7 : ∀ (x5 : Int32), k6 x5 = some (ro, Mo) → zV κ G 33 [(0, .ref (G.1 0)), (1, .int p1), (2, .int p2)] [.int x5] M F := by
        intro x5 hf
        rw [k6e] at hf
        refine z_istore_n (lv' := [(3, .int x5), (0, .ref (G.1 0)), (1, .int p1), (2, .int p2)]) X dX6_shear_33 rfl hm (by decide) rfl ?_
        refine z_iconst (v := (0 : Int32)) X dX6_shear_34 (by decide) ?_
        refine z_istore (lv' := [(4, .int (0 : Int32)), (3, .int x5), (0, .ref (G.1 0)), (1, .int p1), (2, .int p2)]) X dX6_shear_35 hm (by decide) rfl ?_
        obtain ⟨b18, hb19, hf⟩ := zb1_sp hf
        have hX13 : ∀ t, t = b18 → zu2 (fun (x25 : Int32) (M26 : zMem) => zV κ G 63 [(4, .int x25), (3, .int x5), (0, .ref (G.1 0)), (1, .int p1), (2, .int p2)] [] M26 F) t := by
          intro t ht
          subst ht
          obtain ⟨x25, M26⟩ := t
          show zV κ G 63 [(4, .int x25), (3, .int x5), (0, .ref (G.1 0)), (1, .int p1), (2, .int p2)] [] M26 F
          refine z_iload_n X dX6_shear_63 rfl 3 rfl ?_
          obtain ⟨k29, k29e, hf⟩ := zj_sp hf
          have hj30 : ∀ (x27 : Int32) (M28 : zMem), k29 x27 M28 = some (ro, Mo) → zV κ G 92 [(4, .int x25), (3, .int x5), (0, .ref (G.1 0)), (1, .int p1), (2, .int p2)] [.int x27] M28 F := by
            intro x27 M28 hf
            rw [k29e] at hf
            exact z_iret X (zR_iM hf Z) dX6_shear_92
          clear k29e
          refine z_if_ne (tgt := 81) X dX6_shear_64 (by decide) (fun h37 => ?_) (fun h37 => ?_)
          · have hf := zf h37 hf
            refine z_aload_n X dX6_shear_81 rfl 2 rfl ?_
            refine gf_X6_12 X dX6_shear_82 ?_
            refine z_aload_n X dX6_shear_85 rfl 2 rfl ?_
            refine gf_X6_45 X dX6_shear_86 ?_
            obtain ⟨r32, M33, h31, hf⟩ := zb2_sp hf
            refine gc_X6_168 (st := []) X (mtX4_slideRows κ.2.1 κ.2.2.2.2.2.2.2.2.2.2.1 G  h31) rfl rfl (Nat.le_of_ble_eq_true rfl) (Nat.le_of_ble_eq_true rfl) (Nat.le_of_ble_eq_true rfl) dX6_shear_89 ?_
            exact hj30 r32 M33 hf
          · have hf := zt h37 hf
            refine z_aload_n X dX6_shear_67 rfl 2 rfl ?_
            refine gf_X6_12 X dX6_shear_68 ?_
            refine z_aload_n X dX6_shear_71 rfl 2 rfl ?_
            refine gf_X6_45 X dX6_shear_72 ?_
            obtain ⟨r35, M36, h34, hf⟩ := zb2_sp hf
            refine gc_X6_164 (st := []) X (mtX4_slideColumns κ.2.1 κ.2.2.2.2.2.2.2.2.2.2.1 G  h34) rfl rfl (Nat.le_of_ble_eq_true rfl) (Nat.le_of_ble_eq_true rfl) (Nat.le_of_ble_eq_true rfl) dX6_shear_75 ?_
            refine z_goto (tgt := 92) X dX6_shear_78 (by decide) ?_
            exact hj30 r35 M36 hf
        refine zlp_walk (P := zu2 (fun (x11 : Int32) (M12 : zMem) => zV κ G 37 [(4, .int x11), (3, .int x5), (0, .ref (G.1 0)), (1, .int p1), (2, .int p2)] [] M12 F)) (fun a38 w17 hf hi15 hx16 => ?_) _ _ hb19
        obtain ⟨x11, M12⟩ := a38
        show zV κ G 37 [(4, .int x11), (3, .int x5), (0, .ref (G.1 0)), (1, .int p1), (2, .int p2)] [] M12 F
        replace hf : fX6_shear_L37 p1 p2 x5 x11 M12 = some w17 := hf
        unfold fX6_shear_L37 at hf
        refine z_iload X dX6_shear_37 0 rfl ?_
        refine z_iload_n X dX6_shear_39 rfl 1 rfl ?_
        refine z_icmp_ge (tgt := 63) X dX6_shear_40 (by decide) (fun h24 => ?_) (fun h24 => ?_)
        · have hf := zt h24 hf
          have hq := hX13 _ (hx16 _ (Option.some.inj hf).symm)
          exact hq
        · have hf := zf h24 hf
          refine z_aload_n X dX6_shear_43 rfl 2 rfl ?_
          refine gf_X6_45 X dX6_shear_44 ?_
          refine z_iload X dX6_shear_47 0 rfl ?_
          refine z_iload_n X dX6_shear_49 rfl 3 rfl ?_
          refine z_iload_n X dX6_shear_50 rfl 4 rfl ?_
          refine z_iload X dX6_shear_51 0 rfl ?_
          obtain ⟨r21, h20, hf⟩ := zb1_sp hf
          refine gc_X6_136 (st := [.int x11, .ref (G.1 59)]) X (mtX6_shiftOf κ.2.1 κ.2.2.2.2.2.2.2.2.2.2.1 G  h20) rfl rfl (Nat.le_of_ble_eq_true rfl) (Nat.le_of_ble_eq_true rfl) (Nat.le_of_ble_eq_true rfl) dX6_shear_53 ?_
          obtain ⟨h22, hf⟩ := zc_sp hf
          refine z_iast X zc_59 zl_59 (zin_sp h22) dX6_shear_56 ?_
          refine z_nmM hf (fun M23 hf => ?_)
          refine z_iinc (lv' := [(4, .int (x11 + (1 : Int32))), (3, .int x5), (0, .ref (G.1 0)), (1, .int p1), (2, .int p2)]) (v := x11 + (1 : Int32)) X dX6_shear_57 (j := 0) rfl rfl hm (by decide) rfl ?_
          refine z_goto (tgt := 37) X dX6_shear_60 (by decide) ?_
          have hq := hi15 _ (Option.some.inj hf).symm
          exact hq
      clear k6e
      refine z_if_ne (tgt := 31) X dX6_shear_18 (by decide) (fun h10 => ?_) (fun h10 => ?_)
      · have hf := zf h10 hf
        refine z_bipush (v := (32 : Int32)) X dX6_shear_31 (by decide) ?_
        exact hj7 (32 : Int32) hf
      · have hf := zt h10 hf
        refine z_aload_n X dX6_shear_21 rfl 0 rfl ?_
        refine gf_X6_12 X dX6_shear_22 ?_
        obtain ⟨r9, h8, hf⟩ := zb1_sp hf
        refine gc_X6_98 (st := []) X (mtX4_width κ.2.1 κ.2.2.2.2.2.2.2.2.2.2.1 G  h8) rfl rfl (Nat.le_of_ble_eq_true rfl) (Nat.le_of_ble_eq_true rfl) (Nat.le_of_ble_eq_true rfl) dX6_shear_25 ?_
        refine z_goto (tgt := 33) X dX6_shear_28 (by decide) ?_
        exact hj7 r9 hf
    · have hf := zt h39 hf
      refine z_bipush (v := (-2 : Int32)) X dX6_shear_14 (by decide) ?_
      exact z_iret X (zR_iM hf Z) dX6_shear_16
set_option maxHeartbeats 4000000 in
set_option maxRecDepth 100000 in
theorem mtX6_run (l : Launch) (D : va_G) (G : zG) {p1 : Int32} {p2 : Int32} {M : zMem} {F : Int64} {ro : Int32} {Mo : zMem} (hf : fX6_run p1 p2 M = some (ro, Mo)) : zCM l yX6_run wX6_run { frames := 5, cells := 0, slots := 0, locals := 113 } D G [.ref (G.1 0), .int p1, .int p2] M F (some (.int ro)) Mo F := by
  refine zCM.ofV (own := RX6) (cc := cX6_run) (maxL := 3) (ret := (some .int)) (lv := [(0, .ref (G.1 0)), (1, .int p1), (2, .int p2)]) (by decide) rfl rfl (Nat.le_of_ble_eq_true rfl) rfl (fun κ X Z hm hκ1 hκ2 => ?_)
  subst hκ1 hκ2
  unfold fX6_run at hf
  refine z_aload_n X dX6_run_0 rfl 0 rfl ?_
  refine gf_X6_34 X dX6_run_1 ?_
  refine z_aload_n X dX6_run_4 rfl 0 rfl ?_
  refine gf_X6_12 X dX6_run_5 ?_
  obtain ⟨M2, h1, hf⟩ := zb1_sp hf
  refine gc_X6_171 (st := []) X (mtX5_find κ.2.1 κ.2.2.2.2.2.2.2.2.2.2.1 G  h1) rfl rfl (Nat.le_of_ble_eq_true rfl) (Nat.le_of_ble_eq_true rfl) (Nat.le_of_ble_eq_true rfl) dX6_run_8 ?_
  refine z_iload_n X dX6_run_11 rfl 1 rfl ?_
  refine z_if_lt (tgt := 26) X dX6_run_12 (by decide) (fun h18 => ?_) (fun h18 => ?_)
  · have hf := zt h18 hf
    refine z_iconst (v := (-1 : Int32)) X dX6_run_26 (by decide) ?_
    exact z_iret X (zR_iM hf Z) dX6_run_27
  · have hf := zf h18 hf
    refine z_iload_n X dX6_run_15 rfl 1 rfl ?_
    refine z_aload_n X dX6_run_16 rfl 0 rfl ?_
    refine gf_X6_34 X dX6_run_17 ?_
    obtain ⟨r4, h3, hf⟩ := zb1_sp hf
    refine gc_X6_175 (st := [.int p1]) X (mtX5_runs κ.2.1 κ.2.2.2.2.2.2.2.2.2.2.1 G  h3) rfl rfl (Nat.le_of_ble_eq_true rfl) (Nat.le_of_ble_eq_true rfl) (Nat.le_of_ble_eq_true rfl) dX6_run_20 ?_
    refine z_icmp_lt (tgt := 28) X dX6_run_23 (by decide) (fun h17 => ?_) (fun h17 => ?_)
    · have hf := zt h17 hf
      refine z_iload_n X dX6_run_28 rfl 2 rfl ?_
      by_cases h5 : p2 = (0 : Int32)
      · have hf := zt h5 hf
        refine z_tableIn (tgt := 60) X dX6_run_29 (by rw [h5]; decide) (by rw [h5]; decide) (by rw [h5]; rfl) (by decide) ?_
        refine z_aload_n X dX6_run_60 rfl 0 rfl ?_
        refine gf_X6_34 X dX6_run_61 ?_
        refine z_iload_n X dX6_run_64 rfl 1 rfl ?_
        obtain ⟨r7, h6, hf⟩ := zb1_sp hf
        refine gc_X6_178 (st := []) X (mtX5_rowOf κ.2.1 κ.2.2.2.2.2.2.2.2.2.2.1 G  h6) rfl rfl (Nat.le_of_ble_eq_true rfl) (Nat.le_of_ble_eq_true rfl) (Nat.le_of_ble_eq_true rfl) dX6_run_65 ?_
        exact z_iret X (zR_iM hf Z) dX6_run_68
      · have hf := zf h5 hf
        by_cases h8 : p2 = (1 : Int32)
        · have hf := zt h8 hf
          refine z_tableIn (tgt := 69) X dX6_run_29 (by rw [h8]; decide) (by rw [h8]; decide) (by rw [h8]; rfl) (by decide) ?_
          refine z_aload_n X dX6_run_69 rfl 0 rfl ?_
          refine gf_X6_34 X dX6_run_70 ?_
          refine z_iload_n X dX6_run_73 rfl 1 rfl ?_
          obtain ⟨r10, h9, hf⟩ := zb1_sp hf
          refine gc_X6_181 (st := []) X (mtX5_firstOf κ.2.1 κ.2.2.2.2.2.2.2.2.2.2.1 G  h9) rfl rfl (Nat.le_of_ble_eq_true rfl) (Nat.le_of_ble_eq_true rfl) (Nat.le_of_ble_eq_true rfl) dX6_run_74 ?_
          exact z_iret X (zR_iM hf Z) dX6_run_77
        · have hf := zf h8 hf
          by_cases h11 : p2 = (2 : Int32)
          · have hf := zt h11 hf
            refine z_tableIn (tgt := 78) X dX6_run_29 (by rw [h11]; decide) (by rw [h11]; decide) (by rw [h11]; rfl) (by decide) ?_
            refine z_aload_n X dX6_run_78 rfl 0 rfl ?_
            refine gf_X6_34 X dX6_run_79 ?_
            refine z_iload_n X dX6_run_82 rfl 1 rfl ?_
            obtain ⟨r13, h12, hf⟩ := zb1_sp hf
            refine gc_X6_184 (st := []) X (mtX5_dotsOf κ.2.1 κ.2.2.2.2.2.2.2.2.2.2.1 G  h12) rfl rfl (Nat.le_of_ble_eq_true rfl) (Nat.le_of_ble_eq_true rfl) (Nat.le_of_ble_eq_true rfl) dX6_run_83 ?_
            exact z_iret X (zR_iM hf Z) dX6_run_86
          · have hf := zf h11 hf
            by_cases h14 : p2 = (3 : Int32)
            · have hf := zt h14 hf
              refine z_tableIn (tgt := 87) X dX6_run_29 (by rw [h14]; decide) (by rw [h14]; decide) (by rw [h14]; rfl) (by decide) ?_
              refine z_aload_n X dX6_run_87 rfl 0 rfl ?_
              refine gf_X6_34 X dX6_run_88 ?_
              refine z_iload_n X dX6_run_91 rfl 1 rfl ?_
              obtain ⟨r16, h15, hf⟩ := zb1_sp hf
              refine gc_X6_187 (st := []) X (mtX5_strokeOf κ.2.1 κ.2.2.2.2.2.2.2.2.2.2.1 G  h15) rfl rfl (Nat.le_of_ble_eq_true rfl) (Nat.le_of_ble_eq_true rfl) (Nat.le_of_ble_eq_true rfl) dX6_run_92 ?_
              exact z_iret X (zR_iM hf Z) dX6_run_95
            · have hf := zf h14 hf
              refine z_tableOut (tgt := 96) X dX6_run_29 (by have q0 := lv_neT h5 (a := 0) rfl; have q1 := lv_neT h8 (a := 1) rfl; have q2 := lv_neT h11 (a := 2) rfl; have q3 := lv_neT h14 (a := 3) rfl; omega) (by decide) ?_
              refine z_bipush (v := (-2 : Int32)) X dX6_run_96 (by decide) ?_
              exact z_iret X (zR_iM hf Z) dX6_run_98
    · have hf := zf h17 hf
      refine z_iconst (v := (-1 : Int32)) X dX6_run_26 (by decide) ?_
      exact z_iret X (zR_iM hf Z) dX6_run_27
set_option maxHeartbeats 4000000 in
set_option maxRecDepth 100000 in
theorem mtX6_stroke (l : Launch) (D : va_G) (G : zG) {p1 : Int32} {p2 : Int32} {M : zMem} {F : Int64} {ro : Int32} {Mo : zMem} (hf : fX6_stroke p1 p2 M = some (ro, Mo)) : zCM l yX6_stroke wX6_stroke { frames := 5, cells := 0, slots := 0, locals := 113 } D G [.ref (G.1 0), .int p1, .int p2] M F (some (.int ro)) Mo F := by
  refine zCM.ofV (own := RX6) (cc := cX6_stroke) (maxL := 3) (ret := (some .int)) (lv := [(0, .ref (G.1 0)), (1, .int p1), (2, .int p2)]) (by decide) rfl rfl (Nat.le_of_ble_eq_true rfl) rfl (fun κ X Z hm hκ1 hκ2 => ?_)
  subst hκ1 hκ2
  unfold fX6_stroke at hf
  refine z_aload_n X dX6_stroke_0 rfl 0 rfl ?_
  refine gf_X6_34 X dX6_stroke_1 ?_
  refine z_aload_n X dX6_stroke_4 rfl 0 rfl ?_
  refine gf_X6_12 X dX6_stroke_5 ?_
  obtain ⟨M2, h1, hf⟩ := zb1_sp hf
  refine gc_X6_171 (st := []) X (mtX5_find κ.2.1 κ.2.2.2.2.2.2.2.2.2.2.1 G  h1) rfl rfl (Nat.le_of_ble_eq_true rfl) (Nat.le_of_ble_eq_true rfl) (Nat.le_of_ble_eq_true rfl) dX6_stroke_8 ?_
  refine z_iload_n X dX6_stroke_11 rfl 1 rfl ?_
  refine z_if_lt (tgt := 26) X dX6_stroke_12 (by decide) (fun h24 => ?_) (fun h24 => ?_)
  · have hf := zt h24 hf
    refine z_iconst (v := (-1 : Int32)) X dX6_stroke_26 (by decide) ?_
    exact z_iret X (zR_iM hf Z) dX6_stroke_27
  · have hf := zf h24 hf
    refine z_iload_n X dX6_stroke_15 rfl 1 rfl ?_
    refine z_aload_n X dX6_stroke_16 rfl 0 rfl ?_
    refine gf_X6_34 X dX6_stroke_17 ?_
    obtain ⟨r4, h3, hf⟩ := zb1_sp hf
    refine gc_X6_190 (st := [.int p1]) X (mtX5_count κ.2.1 κ.2.2.2.2.2.2.2.2.2.2.1 G  h3) rfl rfl (Nat.le_of_ble_eq_true rfl) (Nat.le_of_ble_eq_true rfl) (Nat.le_of_ble_eq_true rfl) dX6_stroke_20 ?_
    refine z_icmp_lt (tgt := 28) X dX6_stroke_23 (by decide) (fun h23 => ?_) (fun h23 => ?_)
    · have hf := zt h23 hf
      refine z_iload_n X dX6_stroke_28 rfl 2 rfl ?_
      by_cases h5 : p2 = (0 : Int32)
      · have hf := zt h5 hf
        refine z_tableIn (tgt := 68) X dX6_stroke_29 (by rw [h5]; decide) (by rw [h5]; decide) (by rw [h5]; rfl) (by decide) ?_
        refine z_aload_n X dX6_stroke_68 rfl 0 rfl ?_
        refine gf_X6_34 X dX6_stroke_69 ?_
        refine z_iload_n X dX6_stroke_72 rfl 1 rfl ?_
        obtain ⟨r7, h6, hf⟩ := zb1_sp hf
        refine gc_X6_193 (st := []) X (mtX5_dotsTogether κ.2.1 κ.2.2.2.2.2.2.2.2.2.2.1 G  h6) rfl rfl (Nat.le_of_ble_eq_true rfl) (Nat.le_of_ble_eq_true rfl) (Nat.le_of_ble_eq_true rfl) dX6_stroke_73 ?_
        exact z_iret X (zR_iM hf Z) dX6_stroke_76
      · have hf := zf h5 hf
        by_cases h8 : p2 = (1 : Int32)
        · have hf := zt h8 hf
          refine z_tableIn (tgt := 77) X dX6_stroke_29 (by rw [h8]; decide) (by rw [h8]; decide) (by rw [h8]; rfl) (by decide) ?_
          refine z_aload_n X dX6_stroke_77 rfl 0 rfl ?_
          refine gf_X6_34 X dX6_stroke_78 ?_
          refine z_iload_n X dX6_stroke_81 rfl 1 rfl ?_
          obtain ⟨r10, h9, hf⟩ := zb1_sp hf
          refine gc_X6_196 (st := []) X (mtX5_runsTogether κ.2.1 κ.2.2.2.2.2.2.2.2.2.2.1 G  h9) rfl rfl (Nat.le_of_ble_eq_true rfl) (Nat.le_of_ble_eq_true rfl) (Nat.le_of_ble_eq_true rfl) dX6_stroke_82 ?_
          exact z_iret X (zR_iM hf Z) dX6_stroke_85
        · have hf := zf h8 hf
          by_cases h11 : p2 = (2 : Int32)
          · have hf := zt h11 hf
            refine z_tableIn (tgt := 86) X dX6_stroke_29 (by rw [h11]; decide) (by rw [h11]; decide) (by rw [h11]; rfl) (by decide) ?_
            refine z_aload_n X dX6_stroke_86 rfl 0 rfl ?_
            refine gf_X6_34 X dX6_stroke_87 ?_
            refine z_iload_n X dX6_stroke_90 rfl 1 rfl ?_
            obtain ⟨r13, h12, hf⟩ := zb1_sp hf
            refine gc_X6_199 (st := []) X (mtX5_leastRow κ.2.1 κ.2.2.2.2.2.2.2.2.2.2.1 G  h12) rfl rfl (Nat.le_of_ble_eq_true rfl) (Nat.le_of_ble_eq_true rfl) (Nat.le_of_ble_eq_true rfl) dX6_stroke_91 ?_
            exact z_iret X (zR_iM hf Z) dX6_stroke_94
          · have hf := zf h11 hf
            by_cases h14 : p2 = (3 : Int32)
            · have hf := zt h14 hf
              refine z_tableIn (tgt := 95) X dX6_stroke_29 (by rw [h14]; decide) (by rw [h14]; decide) (by rw [h14]; rfl) (by decide) ?_
              refine z_aload_n X dX6_stroke_95 rfl 0 rfl ?_
              refine gf_X6_34 X dX6_stroke_96 ?_
              refine z_iload_n X dX6_stroke_99 rfl 1 rfl ?_
              obtain ⟨r16, h15, hf⟩ := zb1_sp hf
              refine gc_X6_202 (st := []) X (mtX5_greatestRow κ.2.1 κ.2.2.2.2.2.2.2.2.2.2.1 G  h15) rfl rfl (Nat.le_of_ble_eq_true rfl) (Nat.le_of_ble_eq_true rfl) (Nat.le_of_ble_eq_true rfl) dX6_stroke_100 ?_
              exact z_iret X (zR_iM hf Z) dX6_stroke_103
            · have hf := zf h14 hf
              by_cases h17 : p2 = (4 : Int32)
              · have hf := zt h17 hf
                refine z_tableIn (tgt := 104) X dX6_stroke_29 (by rw [h17]; decide) (by rw [h17]; decide) (by rw [h17]; rfl) (by decide) ?_
                refine z_aload_n X dX6_stroke_104 rfl 0 rfl ?_
                refine gf_X6_34 X dX6_stroke_105 ?_
                refine z_iload_n X dX6_stroke_108 rfl 1 rfl ?_
                obtain ⟨r19, h18, hf⟩ := zb1_sp hf
                refine gc_X6_205 (st := []) X (mtX5_leastColumn κ.2.1 κ.2.2.2.2.2.2.2.2.2.2.1 G  h18) rfl rfl (Nat.le_of_ble_eq_true rfl) (Nat.le_of_ble_eq_true rfl) (Nat.le_of_ble_eq_true rfl) dX6_stroke_109 ?_
                exact z_iret X (zR_iM hf Z) dX6_stroke_112
              · have hf := zf h17 hf
                by_cases h20 : p2 = (5 : Int32)
                · have hf := zt h20 hf
                  refine z_tableIn (tgt := 113) X dX6_stroke_29 (by rw [h20]; decide) (by rw [h20]; decide) (by rw [h20]; rfl) (by decide) ?_
                  refine z_aload_n X dX6_stroke_113 rfl 0 rfl ?_
                  refine gf_X6_34 X dX6_stroke_114 ?_
                  refine z_iload_n X dX6_stroke_117 rfl 1 rfl ?_
                  obtain ⟨r22, h21, hf⟩ := zb1_sp hf
                  refine gc_X6_208 (st := []) X (mtX5_greatestColumn κ.2.1 κ.2.2.2.2.2.2.2.2.2.2.1 G  h21) rfl rfl (Nat.le_of_ble_eq_true rfl) (Nat.le_of_ble_eq_true rfl) (Nat.le_of_ble_eq_true rfl) dX6_stroke_118 ?_
                  exact z_iret X (zR_iM hf Z) dX6_stroke_121
                · have hf := zf h20 hf
                  refine z_tableOut (tgt := 122) X dX6_stroke_29 (by have q0 := lv_neT h5 (a := 0) rfl; have q1 := lv_neT h8 (a := 1) rfl; have q2 := lv_neT h11 (a := 2) rfl; have q3 := lv_neT h14 (a := 3) rfl; have q4 := lv_neT h17 (a := 4) rfl; have q5 := lv_neT h20 (a := 5) rfl; omega) (by decide) ?_
                  refine z_bipush (v := (-2 : Int32)) X dX6_stroke_122 (by decide) ?_
                  exact z_iret X (zR_iM hf Z) dX6_stroke_124
    · have hf := zf h23 hf
      refine z_iconst (v := (-1 : Int32)) X dX6_stroke_26 (by decide) ?_
      exact z_iret X (zR_iM hf Z) dX6_stroke_27
set_option maxHeartbeats 4000000 in
set_option maxRecDepth 100000 in
theorem mtX6_baseline (l : Launch) (D : va_G) (G : zG) {p1 : Int32} {M : zMem} {F : Int64} {ro : Int32} {Mo : zMem} (hf : fX6_baseline p1 M = some (ro, Mo)) : zCM l yX6_baseline wX6_baseline { frames := 5, cells := 0, slots := 0, locals := 112 } D G [.ref (G.1 0), .int p1] M F (some (.int ro)) Mo F := by
  refine zCM.ofV (own := RX6) (cc := cX6_baseline) (maxL := 2) (ret := (some .int)) (lv := [(0, .ref (G.1 0)), (1, .int p1)]) (by decide) rfl rfl (Nat.le_of_ble_eq_true rfl) rfl (fun κ X Z hm hκ1 hκ2 => ?_)
  subst hκ1 hκ2
  unfold fX6_baseline at hf
  refine z_iload_n X dX6_baseline_0 rfl 1 rfl ?_
  refine z_if_lt (tgt := 9) X dX6_baseline_1 (by decide) (fun h15 => ?_) (fun h15 => ?_)
  · have hf := zt h15 hf
    refine z_bipush (v := (-2 : Int32)) X dX6_baseline_9 (by decide) ?_
    exact z_iret X (zR_iM hf Z) dX6_baseline_11
  · have hf := zf h15 hf
    refine z_iload_n X dX6_baseline_4 rfl 1 rfl ?_
    refine z_iconst (v := (2 : Int32)) X dX6_baseline_5 (by decide) ?_
    refine z_icmp_le (tgt := 12) X dX6_baseline_6 (by decide) (fun h14 => ?_) (fun h14 => ?_)
    · have hf := zt h14 hf
      refine z_aload_n X dX6_baseline_12 rfl 0 rfl ?_
      refine gf_X6_41 X dX6_baseline_13 ?_
      refine z_aload_n X dX6_baseline_16 rfl 0 rfl ?_
      refine gf_X6_12 X dX6_baseline_17 ?_
      obtain ⟨M2, h1, hf⟩ := zb1_sp hf
      refine gc_X6_211 (st := []) X (mtX0_find κ.2.1 κ.2.2.2.2.2.2.2.2.2.2.1 G  h1) rfl rfl (Nat.le_of_ble_eq_true rfl) (Nat.le_of_ble_eq_true rfl) (Nat.le_of_ble_eq_true rfl) dX6_baseline_20 ?_
      refine z_aload_n X dX6_baseline_23 rfl 0 rfl ?_
      refine gf_X6_41 X dX6_baseline_24 ?_
      obtain ⟨r4, h3, hf⟩ := zb1_sp hf
      refine gc_X6_212 (st := []) X (mtX0_length κ.2.1 κ.2.2.2.2.2.2.2.2.2.2.1 G  h3) rfl rfl (Nat.le_of_ble_eq_true rfl) (Nat.le_of_ble_eq_true rfl) (Nat.le_of_ble_eq_true rfl) dX6_baseline_27 ?_
      refine z_if_ne (tgt := 36) X dX6_baseline_30 (by decide) (fun h13 => ?_) (fun h13 => ?_)
      · have hf := zf h13 hf
        refine z_iload_n X dX6_baseline_36 rfl 1 rfl ?_
        by_cases h5 : p1 = (0 : Int32)
        · have hf := zt h5 hf
          refine z_lookup (tgt := 64) (off := 27) X dX6_baseline_37 rfl (by rw [h5]; decide) (by decide) ?_
          refine z_aload_n X dX6_baseline_64 rfl 0 rfl ?_
          refine gf_X6_41 X dX6_baseline_65 ?_
          obtain ⟨r7, h6, hf⟩ := zb1_sp hf
          refine gc_X6_215 (st := []) X (mtX0_first κ.2.1 κ.2.2.2.2.2.2.2.2.2.2.1 G  h6) rfl rfl (Nat.le_of_ble_eq_true rfl) (Nat.le_of_ble_eq_true rfl) (Nat.le_of_ble_eq_true rfl) dX6_baseline_68 ?_
          exact z_iret X (zR_iM hf Z) dX6_baseline_71
        · have hf := zf h5 hf
          by_cases h8 : p1 = (1 : Int32)
          · have hf := zt h8 hf
            refine z_lookup (tgt := 72) (off := 35) X dX6_baseline_37 rfl (by rw [h8]; decide) (by decide) ?_
            refine z_aload_n X dX6_baseline_72 rfl 0 rfl ?_
            refine gf_X6_41 X dX6_baseline_73 ?_
            obtain ⟨r10, h9, hf⟩ := zb1_sp hf
            refine gc_X6_212 (st := []) X (mtX0_length κ.2.1 κ.2.2.2.2.2.2.2.2.2.2.1 G  h9) rfl rfl (Nat.le_of_ble_eq_true rfl) (Nat.le_of_ble_eq_true rfl) (Nat.le_of_ble_eq_true rfl) dX6_baseline_76 ?_
            exact z_iret X (zR_iM hf Z) dX6_baseline_79
          · have hf := zf h8 hf
            refine z_lookup (tgt := 80) (off := 43) X dX6_baseline_37 rfl (by show Op.lookupswitch.offset [(0, 27), (1, 35)] 43 _ = _; rw [lv_osw (a := 0) h5 rfl, lv_osw (a := 1) h8 rfl]; rfl) (by decide) ?_
            refine z_aload_n X dX6_baseline_80 rfl 0 rfl ?_
            refine gf_X6_41 X dX6_baseline_81 ?_
            obtain ⟨r12, h11, hf⟩ := zb1_sp hf
            refine gc_X6_218 (st := []) X (mtX0_height κ.2.1 κ.2.2.2.2.2.2.2.2.2.2.1 G  h11) rfl rfl (Nat.le_of_ble_eq_true rfl) (Nat.le_of_ble_eq_true rfl) (Nat.le_of_ble_eq_true rfl) dX6_baseline_84 ?_
            exact z_iret X (zR_iM hf Z) dX6_baseline_87
      · have hf := zt h13 hf
        refine z_bipush (v := (-9 : Int32)) X dX6_baseline_33 (by decide) ?_
        exact z_iret X (zR_iM hf Z) dX6_baseline_35
    · have hf := zf h14 hf
      refine z_bipush (v := (-2 : Int32)) X dX6_baseline_9 (by decide) ?_
      exact z_iret X (zR_iM hf Z) dX6_baseline_11
set_option maxHeartbeats 4000000 in
set_option maxRecDepth 100000 in
theorem mtX6_foot (l : Launch) (D : va_G) (G : zG) {p1 : Int32} {M : zMem} {F : Int64} {ro : Int32} {Mo : zMem} (hf : fX6_foot p1 M = some (ro, Mo)) : zCM l yX6_foot wX6_foot { frames := 5, cells := 0, slots := 0, locals := 112 } D G [.ref (G.1 0), .int p1] M F (some (.int ro)) Mo F := by
  refine zCM.ofV (own := RX6) (cc := cX6_foot) (maxL := 2) (ret := (some .int)) (lv := [(0, .ref (G.1 0)), (1, .int p1)]) (by decide) rfl rfl (Nat.le_of_ble_eq_true rfl) rfl (fun κ X Z hm hκ1 hκ2 => ?_)
  subst hκ1 hκ2
  unfold fX6_foot at hf
  refine z_aload_n X dX6_foot_0 rfl 0 rfl ?_
  refine gf_X6_12 X dX6_foot_1 ?_
  refine z_iload_n X dX6_foot_4 rfl 1 rfl ?_
  obtain ⟨r2, h1, hf⟩ := zb1_sp hf
  refine gc_X6_62 (st := []) X (mtX4_hasColumn κ.2.1 κ.2.2.2.2.2.2.2.2.2.2.1 G  h1) rfl rfl (Nat.le_of_ble_eq_true rfl) (Nat.le_of_ble_eq_true rfl) (Nat.le_of_ble_eq_true rfl) dX6_foot_5 ?_
  refine z_if_ne (tgt := 13) X dX6_foot_8 (by decide) (fun h13 => ?_) (fun h13 => ?_)
  · have hf := zf h13 hf
    refine z_aload_n X dX6_foot_13 rfl 0 rfl ?_
    refine gf_X6_41 X dX6_foot_14 ?_
    refine z_aload_n X dX6_foot_17 rfl 0 rfl ?_
    refine gf_X6_12 X dX6_foot_18 ?_
    obtain ⟨M4, h3, hf⟩ := zb1_sp hf
    refine gc_X6_211 (st := []) X (mtX0_find κ.2.1 κ.2.2.2.2.2.2.2.2.2.2.1 G  h3) rfl rfl (Nat.le_of_ble_eq_true rfl) (Nat.le_of_ble_eq_true rfl) (Nat.le_of_ble_eq_true rfl) dX6_foot_21 ?_
    refine z_aload_n X dX6_foot_24 rfl 0 rfl ?_
    refine gf_X6_41 X dX6_foot_25 ?_
    refine z_iload_n X dX6_foot_28 rfl 1 rfl ?_
    obtain ⟨r6, h5, hf⟩ := zb1_sp hf
    refine gc_X6_221 (st := []) X (mtX0_covers κ.2.1 κ.2.2.2.2.2.2.2.2.2.2.1 G  h5) rfl rfl (Nat.le_of_ble_eq_true rfl) (Nat.le_of_ble_eq_true rfl) (Nat.le_of_ble_eq_true rfl) dX6_foot_29 ?_
    obtain ⟨k8, k8e, hf⟩ := zj_sp hf
    have hj9 : ∀ (x7 : Int32), k8 x7 = some (ro, Mo) → zV κ G 48 [(0, .ref (G.1 0)), (1, .int p1)] [.int x7] M4 F := by
      intro x7 hf
      rw [k8e] at hf
      exact z_iret X (zR_iM hf Z) dX6_foot_48
    clear k8e
    refine z_if_eq (tgt := 46) X dX6_foot_32 (by decide) (fun h12 => ?_) (fun h12 => ?_)
    · have hf := zt h12 hf
      refine z_bipush (v := (-9 : Int32)) X dX6_foot_46 (by decide) ?_
      exact hj9 (-9 : Int32) hf
    · have hf := zf h12 hf
      refine z_aload_n X dX6_foot_35 rfl 0 rfl ?_
      refine gf_X6_41 X dX6_foot_36 ?_
      refine z_iload_n X dX6_foot_39 rfl 1 rfl ?_
      obtain ⟨r11, h10, hf⟩ := zb1_sp hf
      refine gc_X6_224 (st := []) X (mtX0_footRow κ.2.1 κ.2.2.2.2.2.2.2.2.2.2.1 G  h10) rfl rfl (Nat.le_of_ble_eq_true rfl) (Nat.le_of_ble_eq_true rfl) (Nat.le_of_ble_eq_true rfl) dX6_foot_40 ?_
      refine z_goto (tgt := 48) X dX6_foot_43 (by decide) ?_
      exact hj9 r11 hf
  · have hf := zt h13 hf
    refine z_iconst (v := (-1 : Int32)) X dX6_foot_11 (by decide) ?_
    exact z_iret X (zR_iM hf Z) dX6_foot_12
set_option maxHeartbeats 4000000 in
set_option maxRecDepth 100000 in
theorem mtX6_curl (l : Launch) (D : va_G) (G : zG) {p1 : Int32} {M : zMem} {F : Int64} {ro : Int32} {Mo : zMem} (hf : fX6_curl p1 M = some (ro, Mo)) : zCM l yX6_curl wX6_curl { frames := 5, cells := 0, slots := 0, locals := 112 } D G [.ref (G.1 0), .int p1] M F (some (.int ro)) Mo F := by
  refine zCM.ofV (own := RX6) (cc := cX6_curl) (maxL := 2) (ret := (some .int)) (lv := [(0, .ref (G.1 0)), (1, .int p1)]) (by decide) rfl rfl (Nat.le_of_ble_eq_true rfl) rfl (fun κ X Z hm hκ1 hκ2 => ?_)
  subst hκ1 hκ2
  unfold fX6_curl at hf
  refine z_aload_n X dX6_curl_0 rfl 0 rfl ?_
  refine gf_X6_12 X dX6_curl_1 ?_
  refine z_iload_n X dX6_curl_4 rfl 1 rfl ?_
  obtain ⟨r2, h1, hf⟩ := zb1_sp hf
  refine gc_X6_62 (st := []) X (mtX4_hasColumn κ.2.1 κ.2.2.2.2.2.2.2.2.2.2.1 G  h1) rfl rfl (Nat.le_of_ble_eq_true rfl) (Nat.le_of_ble_eq_true rfl) (Nat.le_of_ble_eq_true rfl) dX6_curl_5 ?_
  refine z_if_ne (tgt := 13) X dX6_curl_8 (by decide) (fun h13 => ?_) (fun h13 => ?_)
  · have hf := zf h13 hf
    refine z_aload_n X dX6_curl_13 rfl 0 rfl ?_
    refine gf_X6_41 X dX6_curl_14 ?_
    refine z_aload_n X dX6_curl_17 rfl 0 rfl ?_
    refine gf_X6_12 X dX6_curl_18 ?_
    obtain ⟨M4, h3, hf⟩ := zb1_sp hf
    refine gc_X6_211 (st := []) X (mtX0_find κ.2.1 κ.2.2.2.2.2.2.2.2.2.2.1 G  h3) rfl rfl (Nat.le_of_ble_eq_true rfl) (Nat.le_of_ble_eq_true rfl) (Nat.le_of_ble_eq_true rfl) dX6_curl_21 ?_
    refine z_aload_n X dX6_curl_24 rfl 0 rfl ?_
    refine gf_X6_41 X dX6_curl_25 ?_
    obtain ⟨r6, h5, hf⟩ := zb1_sp hf
    refine gc_X6_212 (st := []) X (mtX0_length κ.2.1 κ.2.2.2.2.2.2.2.2.2.2.1 G  h5) rfl rfl (Nat.le_of_ble_eq_true rfl) (Nat.le_of_ble_eq_true rfl) (Nat.le_of_ble_eq_true rfl) dX6_curl_28 ?_
    obtain ⟨k8, k8e, hf⟩ := zj_sp hf
    have hj9 : ∀ (x7 : Int32), k8 x7 = some (ro, Mo) → zV κ G 50 [(0, .ref (G.1 0)), (1, .int p1)] [.int x7] M4 F := by
      intro x7 hf
      rw [k8e] at hf
      exact z_iret X (zR_iM hf Z) dX6_curl_50
    clear k8e
    refine z_if_ne (tgt := 39) X dX6_curl_31 (by decide) (fun h12 => ?_) (fun h12 => ?_)
    · have hf := zf h12 hf
      refine z_aload_n X dX6_curl_39 rfl 0 rfl ?_
      refine gf_X6_41 X dX6_curl_40 ?_
      refine z_iload_n X dX6_curl_43 rfl 1 rfl ?_
      obtain ⟨r11, h10, hf⟩ := zb1_sp hf
      refine gc_X6_227 (st := []) X (mtX0_bend κ.2.1 κ.2.2.2.2.2.2.2.2.2.2.1 G  h10) rfl rfl (Nat.le_of_ble_eq_true rfl) (Nat.le_of_ble_eq_true rfl) (Nat.le_of_ble_eq_true rfl) dX6_curl_44 ?_
      refine z_bipush (v := (100 : Int32)) X dX6_curl_47 (by decide) ?_
      refine z_iadd X dX6_curl_49 ?_
      exact hj9 (r11 + (100 : Int32)) hf
    · have hf := zt h12 hf
      refine z_bipush (v := (-3 : Int32)) X dX6_curl_34 (by decide) ?_
      refine z_goto (tgt := 50) X dX6_curl_36 (by decide) ?_
      exact hj9 (-3 : Int32) hf
  · have hf := zt h13 hf
    refine z_iconst (v := (-1 : Int32)) X dX6_curl_11 (by decide) ?_
    exact z_iret X (zR_iM hf Z) dX6_curl_12
set_option maxHeartbeats 4000000 in
set_option maxRecDepth 100000 in
theorem mtX6_mean (l : Launch) (D : va_G) (G : zG) {M : zMem} {F : Int64} {ro : Int64} {Mo : zMem} (hf : fX6_mean M = some (ro, Mo)) : zCM l yX6_mean wX6_mean { frames := 5, cells := 0, slots := 0, locals := 112 } D G [.ref (G.1 0)] M F (some (.long ro)) Mo F := by
  refine zCM.ofV (own := RX6) (cc := cX6_mean) (maxL := 1) (ret := (some .long)) (lv := [(0, .ref (G.1 0))]) (by decide) rfl rfl (Nat.le_of_ble_eq_true rfl) rfl (fun κ X Z hm hκ1 hκ2 => ?_)
  subst hκ1 hκ2
  unfold fX6_mean at hf
  refine z_aload_n X dX6_mean_0 rfl 0 rfl ?_
  refine gf_X6_41 X dX6_mean_1 ?_
  refine z_aload_n X dX6_mean_4 rfl 0 rfl ?_
  refine gf_X6_12 X dX6_mean_5 ?_
  obtain ⟨M2, h1, hf⟩ := zb1_sp hf
  refine gc_X6_211 (st := []) X (mtX0_find κ.2.1 κ.2.2.2.2.2.2.2.2.2.2.1 G  h1) rfl rfl (Nat.le_of_ble_eq_true rfl) (Nat.le_of_ble_eq_true rfl) (Nat.le_of_ble_eq_true rfl) dX6_mean_8 ?_
  refine z_aload_n X dX6_mean_11 rfl 0 rfl ?_
  refine gf_X6_41 X dX6_mean_12 ?_
  obtain ⟨r4, h3, hf⟩ := zb1_sp hf
  refine gc_X6_212 (st := []) X (mtX0_length κ.2.1 κ.2.2.2.2.2.2.2.2.2.2.1 G  h3) rfl rfl (Nat.le_of_ble_eq_true rfl) (Nat.le_of_ble_eq_true rfl) (Nat.le_of_ble_eq_true rfl) dX6_mean_15 ?_
  obtain ⟨k6, k6e, hf⟩ := zj_sp hf
  have hj7 : ∀ (x5 : Int64), k6 x5 = some (ro, Mo) → zV κ G 34 [(0, .ref (G.1 0))] [.long x5] M2 F := by
    intro x5 hf
    rw [k6e] at hf
    exact z_lret X (zR_lM hf Z) dX6_mean_34
  clear k6e
  refine z_if_ne (tgt := 27) X dX6_mean_18 (by decide) (fun h10 => ?_) (fun h10 => ?_)
  · have hf := zf h10 hf
    refine z_aload_n X dX6_mean_27 rfl 0 rfl ?_
    refine gf_X6_41 X dX6_mean_28 ?_
    obtain ⟨r9, h8, hf⟩ := zb1_sp hf
    refine gc_X6_230 (st := []) X (mtX0_meanBits κ.2.1 κ.2.2.2.2.2.2.2.2.2.2.1 G  h8) rfl rfl (Nat.le_of_ble_eq_true rfl) (Nat.le_of_ble_eq_true rfl) (Nat.le_of_ble_eq_true rfl) dX6_mean_31 ?_
    exact hj7 r9 hf
  · have hf := zt h10 hf
    refine z_ldc2 (v := (-9223372036854775808 : Int64)) X dX6_mean_21 (List.mem_cons_of_mem _ zw_8_22) ?_
    refine z_goto (tgt := 34) X dX6_mean_24 (by decide) ?_
    exact hj7 (-9223372036854775808 : Int64) hf
set_option maxHeartbeats 4000000 in
set_option maxRecDepth 100000 in
theorem mtX6_rest (l : Launch) (D : va_G) (G : zG) {M : zMem} {F : Int64} {ro : Int64} {Mo : zMem} (hf : fX6_rest M = some (ro, Mo)) : zCM l yX6_rest wX6_rest { frames := 5, cells := 0, slots := 0, locals := 112 } D G [.ref (G.1 0)] M F (some (.long ro)) Mo F := by
  refine zCM.ofV (own := RX6) (cc := cX6_rest) (maxL := 1) (ret := (some .long)) (lv := [(0, .ref (G.1 0))]) (by decide) rfl rfl (Nat.le_of_ble_eq_true rfl) rfl (fun κ X Z hm hκ1 hκ2 => ?_)
  subst hκ1 hκ2
  unfold fX6_rest at hf
  refine z_aload_n X dX6_rest_0 rfl 0 rfl ?_
  refine gf_X6_41 X dX6_rest_1 ?_
  refine z_aload_n X dX6_rest_4 rfl 0 rfl ?_
  refine gf_X6_12 X dX6_rest_5 ?_
  obtain ⟨M2, h1, hf⟩ := zb1_sp hf
  refine gc_X6_211 (st := []) X (mtX0_find κ.2.1 κ.2.2.2.2.2.2.2.2.2.2.1 G  h1) rfl rfl (Nat.le_of_ble_eq_true rfl) (Nat.le_of_ble_eq_true rfl) (Nat.le_of_ble_eq_true rfl) dX6_rest_8 ?_
  refine z_aload_n X dX6_rest_11 rfl 0 rfl ?_
  refine gf_X6_41 X dX6_rest_12 ?_
  obtain ⟨r4, h3, hf⟩ := zb1_sp hf
  refine gc_X6_212 (st := []) X (mtX0_length κ.2.1 κ.2.2.2.2.2.2.2.2.2.2.1 G  h3) rfl rfl (Nat.le_of_ble_eq_true rfl) (Nat.le_of_ble_eq_true rfl) (Nat.le_of_ble_eq_true rfl) dX6_rest_15 ?_
  obtain ⟨k6, k6e, hf⟩ := zj_sp hf
  have hj7 : ∀ (x5 : Int64), k6 x5 = some (ro, Mo) → zV κ G 37 [(0, .ref (G.1 0))] [.long x5] M2 F := by
    intro x5 hf
    rw [k6e] at hf
    exact z_lret X (zR_lM hf Z) dX6_rest_37
  clear k6e
  refine z_if_ne (tgt := 27) X dX6_rest_18 (by decide) (fun h12 => ?_) (fun h12 => ?_)
  · have hf := zf h12 hf
    refine z_aload_n X dX6_rest_27 rfl 0 rfl ?_
    refine gf_X6_41 X dX6_rest_28 ?_
    obtain ⟨r9, h8, hf⟩ := zb1_sp hf
    refine gc_X6_230 (st := []) X (mtX0_meanBits κ.2.1 κ.2.2.2.2.2.2.2.2.2.2.1 G  h8) rfl rfl (Nat.le_of_ble_eq_true rfl) (Nat.le_of_ble_eq_true rfl) (Nat.le_of_ble_eq_true rfl) dX6_rest_31 ?_
    obtain ⟨r11, h10, hf⟩ := zb1_sp hf
    refine gc_X6_234 (st := []) X (mtX1_doubleAboveWhole κ.2.1 κ.2.2.2.2.2.2.2.2.2.2.1 G  h10) rfl rfl (Nat.le_of_ble_eq_true rfl) (Nat.le_of_ble_eq_true rfl) (Nat.le_of_ble_eq_true rfl) dX6_rest_34 ?_
    exact hj7 r11 hf
  · have hf := zt h12 hf
    refine z_ldc2 (v := (-9223372036854775808 : Int64)) X dX6_rest_21 (List.mem_cons_of_mem _ zw_8_22) ?_
    refine z_goto (tgt := 37) X dX6_rest_24 (by decide) ?_
    exact hj7 (-9223372036854775808 : Int64) hf
set_option maxHeartbeats 4000000 in
set_option maxRecDepth 100000 in
theorem mtX6_slope (l : Launch) (D : va_G) (G : zG) {M : zMem} {F : Int64} {ro : Int32} {Mo : zMem} (hf : fX6_slope M = some (ro, Mo)) : zCM l yX6_slope wX6_slope { frames := 5, cells := 0, slots := 0, locals := 112 } D G [.ref (G.1 0)] M F (some (.int ro)) Mo F := by
  refine zCM.ofV (own := RX6) (cc := cX6_slope) (maxL := 1) (ret := (some .int)) (lv := [(0, .ref (G.1 0))]) (by decide) rfl rfl (Nat.le_of_ble_eq_true rfl) rfl (fun κ X Z hm hκ1 hκ2 => ?_)
  subst hκ1 hκ2
  unfold fX6_slope at hf
  refine z_aload_n X dX6_slope_0 rfl 0 rfl ?_
  refine gf_X6_41 X dX6_slope_1 ?_
  refine z_aload_n X dX6_slope_4 rfl 0 rfl ?_
  refine gf_X6_12 X dX6_slope_5 ?_
  obtain ⟨M2, h1, hf⟩ := zb1_sp hf
  refine gc_X6_211 (st := []) X (mtX0_find κ.2.1 κ.2.2.2.2.2.2.2.2.2.2.1 G  h1) rfl rfl (Nat.le_of_ble_eq_true rfl) (Nat.le_of_ble_eq_true rfl) (Nat.le_of_ble_eq_true rfl) dX6_slope_8 ?_
  refine z_aload_n X dX6_slope_11 rfl 0 rfl ?_
  refine gf_X6_41 X dX6_slope_12 ?_
  obtain ⟨r4, h3, hf⟩ := zb1_sp hf
  refine gc_X6_212 (st := []) X (mtX0_length κ.2.1 κ.2.2.2.2.2.2.2.2.2.2.1 G  h3) rfl rfl (Nat.le_of_ble_eq_true rfl) (Nat.le_of_ble_eq_true rfl) (Nat.le_of_ble_eq_true rfl) dX6_slope_15 ?_
  refine z_iconst (v := (2 : Int32)) X dX6_slope_18 (by decide) ?_
  obtain ⟨k6, k6e, hf⟩ := zj_sp hf
  have hj7 : ∀ (x5 : Int32), k6 x5 = some (ro, Mo) → zV κ G 34 [(0, .ref (G.1 0))] [.int x5] M2 F := by
    intro x5 hf
    rw [k6e] at hf
    exact z_iret X (zR_iM hf Z) dX6_slope_34
  clear k6e
  refine z_icmp_ge (tgt := 27) X dX6_slope_19 (by decide) (fun h10 => ?_) (fun h10 => ?_)
  · have hf := zt h10 hf
    refine z_aload_n X dX6_slope_27 rfl 0 rfl ?_
    refine gf_X6_41 X dX6_slope_28 ?_
    obtain ⟨r9, h8, hf⟩ := zb1_sp hf
    refine gc_X6_240 (st := []) X (mtX0_slopeBits κ.2.1 κ.2.2.2.2.2.2.2.2.2.2.1 G  h8) rfl rfl (Nat.le_of_ble_eq_true rfl) (Nat.le_of_ble_eq_true rfl) (Nat.le_of_ble_eq_true rfl) dX6_slope_31 ?_
    exact hj7 r9 hf
  · have hf := zf h10 hf
    refine z_bipush (v := (-3 : Int32)) X dX6_slope_22 (by decide) ?_
    refine z_goto (tgt := 34) X dX6_slope_24 (by decide) ?_
    exact hj7 (-3 : Int32) hf
set_option maxHeartbeats 4000000 in
set_option maxRecDepth 100000 in
theorem mtX6_level (l : Launch) (D : va_G) (G : zG) {M : zMem} {F : Int64} {ro : Int32} {Mo : zMem} (hf : fX6_level M = some (ro, Mo)) : zCM l yX6_level wX6_level { frames := 5, cells := 0, slots := 0, locals := 112 } D G [.ref (G.1 0)] M F (some (.int ro)) Mo F := by
  refine zCM.ofV (own := RX6) (cc := cX6_level) (maxL := 2) (ret := (some .int)) (lv := [(0, .ref (G.1 0))]) (by decide) rfl rfl (Nat.le_of_ble_eq_true rfl) rfl (fun κ X Z hm hκ1 hκ2 => ?_)
  subst hκ1 hκ2
  unfold fX6_level at hf
  refine z_aload_n X dX6_level_0 rfl 0 rfl ?_
  refine gf_X6_41 X dX6_level_1 ?_
  refine z_aload_n X dX6_level_4 rfl 0 rfl ?_
  refine gf_X6_12 X dX6_level_5 ?_
  obtain ⟨M2, h1, hf⟩ := zb1_sp hf
  refine gc_X6_211 (st := []) X (mtX0_find κ.2.1 κ.2.2.2.2.2.2.2.2.2.2.1 G  h1) rfl rfl (Nat.le_of_ble_eq_true rfl) (Nat.le_of_ble_eq_true rfl) (Nat.le_of_ble_eq_true rfl) dX6_level_8 ?_
  refine z_aload_n X dX6_level_11 rfl 0 rfl ?_
  refine gf_X6_41 X dX6_level_12 ?_
  obtain ⟨r4, h3, hf⟩ := zb1_sp hf
  refine gc_X6_212 (st := []) X (mtX0_length κ.2.1 κ.2.2.2.2.2.2.2.2.2.2.1 G  h3) rfl rfl (Nat.le_of_ble_eq_true rfl) (Nat.le_of_ble_eq_true rfl) (Nat.le_of_ble_eq_true rfl) dX6_level_15 ?_
  refine z_if_ne (tgt := 24) X dX6_level_18 (by decide) (fun h27 => ?_) (fun h27 => ?_)
  · have hf := zf h27 hf
    refine z_iconst (v := (0 : Int32)) X dX6_level_24 (by decide) ?_
    refine z_istore_n (lv' := [(1, .int (0 : Int32)), (0, .ref (G.1 0))]) X dX6_level_25 rfl hm (by decide) rfl ?_
    obtain ⟨b12, hb13, hf⟩ := zb1_sp hf
    have hX7 : ∀ t, t = b12 → zu2 (fun (x21 : Int32) (M22 : zMem) => zV κ G 57 [(1, .int x21), (0, .ref (G.1 0))] [] M22 F) t := by
      intro t ht
      subst ht
      obtain ⟨x21, M22⟩ := t
      show zV κ G 57 [(1, .int x21), (0, .ref (G.1 0))] [] M22 F
      refine z_aload_n X dX6_level_57 rfl 1 rfl ?_
      refine gf_X6_12 X dX6_level_58 ?_
      refine z_aload_n X dX6_level_61 rfl 1 rfl ?_
      refine gf_X6_45 X dX6_level_62 ?_
      obtain ⟨r24, M25, h23, hf⟩ := zb2_sp hf
      refine gc_X6_164 (st := []) X (mtX4_slideColumns κ.2.1 κ.2.2.2.2.2.2.2.2.2.2.1 G  h23) rfl rfl (Nat.le_of_ble_eq_true rfl) (Nat.le_of_ble_eq_true rfl) (Nat.le_of_ble_eq_true rfl) dX6_level_65 ?_
      exact z_iret X (zR_iM hf Z) dX6_level_68
    refine zlp_walk (P := zu2 (fun (x5 : Int32) (M6 : zMem) => zV κ G 26 [(1, .int x5), (0, .ref (G.1 0))] [] M6 F)) (fun a26 w11 hf hi9 hx10 => ?_) _ _ hb13
    obtain ⟨x5, M6⟩ := a26
    show zV κ G 26 [(1, .int x5), (0, .ref (G.1 0))] [] M6 F
    replace hf : fX6_level_L26 x5 M6 = some w11 := hf
    unfold fX6_level_L26 at hf
    refine z_iload_n X dX6_level_26 rfl 0 rfl ?_
    refine z_aload_n X dX6_level_27 rfl 1 rfl ?_
    refine gf_X6_12 X dX6_level_28 ?_
    obtain ⟨r15, h14, hf⟩ := zb1_sp hf
    refine gc_X6_98 (st := [.int x5]) X (mtX4_width κ.2.1 κ.2.2.2.2.2.2.2.2.2.2.1 G  h14) rfl rfl (Nat.le_of_ble_eq_true rfl) (Nat.le_of_ble_eq_true rfl) (Nat.le_of_ble_eq_true rfl) dX6_level_31 ?_
    refine z_icmp_ge (tgt := 57) X dX6_level_34 (by decide) (fun h20 => ?_) (fun h20 => ?_)
    · have hf := zt h20 hf
      have hq := hX7 _ (hx10 _ (Option.some.inj hf).symm)
      exact hq
    · have hf := zf h20 hf
      refine z_aload_n X dX6_level_37 rfl 1 rfl ?_
      refine gf_X6_45 X dX6_level_38 ?_
      refine z_iload_n X dX6_level_41 rfl 0 rfl ?_
      refine z_aload_n X dX6_level_42 rfl 1 rfl ?_
      refine gf_X6_41 X dX6_level_43 ?_
      refine z_iload_n X dX6_level_46 rfl 0 rfl ?_
      obtain ⟨r17, h16, hf⟩ := zb1_sp hf
      refine gc_X6_227 (st := [.int x5, .ref (G.1 59)]) X (mtX0_bend κ.2.1 κ.2.2.2.2.2.2.2.2.2.2.1 G  h16) rfl rfl (Nat.le_of_ble_eq_true rfl) (Nat.le_of_ble_eq_true rfl) (Nat.le_of_ble_eq_true rfl) dX6_level_47 ?_
      obtain ⟨h18, hf⟩ := zc_sp hf
      refine z_iast X zc_59 zl_59 (zin_sp h18) dX6_level_50 ?_
      refine z_nmM hf (fun M19 hf => ?_)
      refine z_iinc (lv' := [(1, .int (x5 + (1 : Int32))), (0, .ref (G.1 0))]) (v := x5 + (1 : Int32)) X dX6_level_51 (j := 0) rfl rfl hm (by decide) rfl ?_
      refine z_goto (tgt := 26) X dX6_level_54 (by decide) ?_
      have hq := hi9 _ (Option.some.inj hf).symm
      exact hq
  · have hf := zt h27 hf
    refine z_bipush (v := (-3 : Int32)) X dX6_level_21 (by decide) ?_
    exact z_iret X (zR_iM hf Z) dX6_level_23
set_option maxHeartbeats 4000000 in
set_option maxRecDepth 100000 in
theorem mtX6_back (l : Launch) (D : va_G) (G : zG) {M : zMem} {F : Int64} {ro : Int32} {Mo : zMem} (hf : fX6_back M = some (ro, Mo)) : zCM l yX6_back wX6_back { frames := 2, cells := 0, slots := 0, locals := 60 } D G [.ref (G.1 0)] M F (some (.int ro)) Mo F := by
  refine zCM.ofV (own := RX6) (cc := cX6_back) (maxL := 1) (ret := (some .int)) (lv := [(0, .ref (G.1 0))]) (by decide) rfl rfl (Nat.le_of_ble_eq_true rfl) rfl (fun κ X Z hm hκ1 hκ2 => ?_)
  subst hκ1 hκ2
  unfold fX6_back at hf
  refine z_aload_n X dX6_back_0 rfl 0 rfl ?_
  refine gf_X6_12 X dX6_back_1 ?_
  obtain ⟨r2, h1, hf⟩ := zb1_sp hf
  refine gc_X6_243 (st := []) X (mtX4_moves κ.2.1 κ.2.2.2.2.2.2.2.2.2.2.1 G  h1) rfl rfl (Nat.le_of_ble_eq_true rfl) (Nat.le_of_ble_eq_true rfl) (Nat.le_of_ble_eq_true rfl) dX6_back_4 ?_
  refine z_if_ne (tgt := 13) X dX6_back_7 (by decide) (fun h7 => ?_) (fun h7 => ?_)
  · have hf := zf h7 hf
    refine z_aload_n X dX6_back_13 rfl 0 rfl ?_
    refine gf_X6_12 X dX6_back_14 ?_
    obtain ⟨M4, h3, hf⟩ := zb1_sp hf
    refine gc_X6_246 (st := []) X (mtX4_takeBack κ.2.1 κ.2.2.2.2.2.2.2.2.2.2.1 G  h3) rfl rfl (Nat.le_of_ble_eq_true rfl) (Nat.le_of_ble_eq_true rfl) (Nat.le_of_ble_eq_true rfl) dX6_back_17 ?_
    refine z_aload_n X dX6_back_20 rfl 0 rfl ?_
    refine gf_X6_12 X dX6_back_21 ?_
    obtain ⟨r6, h5, hf⟩ := zb1_sp hf
    refine gc_X6_243 (st := []) X (mtX4_moves κ.2.1 κ.2.2.2.2.2.2.2.2.2.2.1 G  h5) rfl rfl (Nat.le_of_ble_eq_true rfl) (Nat.le_of_ble_eq_true rfl) (Nat.le_of_ble_eq_true rfl) dX6_back_24 ?_
    exact z_iret X (zR_iM hf Z) dX6_back_27
  · have hf := zt h7 hf
    refine z_bipush (v := (-3 : Int32)) X dX6_back_10 (by decide) ?_
    exact z_iret X (zR_iM hf Z) dX6_back_12
set_option maxHeartbeats 4000000 in
set_option maxRecDepth 100000 in
theorem mtX6_fault (l : Launch) (D : va_G) (G : zG) {M : zMem} {F : Int64} {ro : Int32} (hf : fX6_fault M = some ro) : zCM l yX6_fault wX6_fault { frames := 0, cells := 0, slots := 0, locals := 0 } D G [.ref (G.1 0)] M F (some (.int ro)) M F := by
  refine zCM.ofV (own := RX6) (cc := cX6_fault) (maxL := 1) (ret := (some .int)) (lv := [(0, .ref (G.1 0))]) (by decide) rfl rfl (Nat.le_of_ble_eq_true rfl) rfl (fun κ X Z hm hκ1 hκ2 => ?_)
  subst hκ1 hκ2
  unfold fX6_fault at hf
  refine z_aload_n X dX6_fault_0 rfl 0 rfl ?_
  refine gf_X6_49 X dX6_fault_1 ?_
  exact z_iret X (zR_i hf Z) dX6_fault_4
set_option maxHeartbeats 4000000 in
set_option maxRecDepth 100000 in
theorem mtX6_filledCards (l : Launch) (D : va_G) (G : zG) {M : zMem} {F : Int64} {ro : Int32} (hf : fX6_filledCards M = some ro) : zCM l yX6_filledCards wX6_filledCards { frames := 1, cells := 0, slots := 0, locals := 20 } D G [.ref (G.1 0)] M F (some (.int ro)) M F := by
  refine zCM.ofV (own := RX6) (cc := cX6_filledCards) (maxL := 3) (ret := (some .int)) (lv := [(0, .ref (G.1 0))]) (by decide) rfl rfl (Nat.le_of_ble_eq_true rfl) rfl (fun κ X Z hm hκ1 hκ2 => ?_)
  subst hκ1 hκ2
  unfold fX6_filledCards at hf
  refine z_iconst (v := (0 : Int32)) X dX6_filledCards_0 (by decide) ?_
  refine z_istore_n (lv' := [(1, .int (0 : Int32)), (0, .ref (G.1 0))]) X dX6_filledCards_1 rfl hm (by decide) rfl ?_
  refine z_iconst (v := (0 : Int32)) X dX6_filledCards_2 (by decide) ?_
  refine z_istore_n (lv' := [(2, .int (0 : Int32)), (1, .int (0 : Int32)), (0, .ref (G.1 0))]) X dX6_filledCards_3 rfl hm (by decide) rfl ?_
  obtain ⟨b8, hb9, hf⟩ := zb1_sp hf
  have hX3 : ∀ t, t = b8 → zu2 (fun (x16 : Int32) (x17 : Int32) => zV κ G 35 [(2, .int x16), (1, .int x17), (0, .ref (G.1 0))] [] M F) t := by
    intro t ht
    subst ht
    obtain ⟨x16, x17⟩ := t
    show zV κ G 35 [(2, .int x16), (1, .int x17), (0, .ref (G.1 0))] [] M F
    refine z_iload_n X dX6_filledCards_35 rfl 1 rfl ?_
    exact z_iret X (zR_i hf Z) dX6_filledCards_36
  refine zlp_walk (P := zu2 (fun (x1 : Int32) (x2 : Int32) => zV κ G 4 [(2, .int x1), (1, .int x2), (0, .ref (G.1 0))] [] M F)) (fun a18 w7 hf hi5 hx6 => ?_) _ _ hb9
  obtain ⟨x1, x2⟩ := a18
  show zV κ G 4 [(2, .int x1), (1, .int x2), (0, .ref (G.1 0))] [] M F
  replace hf : fX6_filledCards_L4 M x1 x2 = some w7 := hf
  unfold fX6_filledCards_L4 at hf
  refine z_iload_n X dX6_filledCards_4 rfl 0 rfl ?_
  refine z_iconst (v := (4 : Int32)) X dX6_filledCards_5 (by decide) ?_
  refine z_icmp_ge (tgt := 35) X dX6_filledCards_6 (by decide) (fun h15 => ?_) (fun h15 => ?_)
  · have hf := zt h15 hf
    have hq := hX3 _ (hx6 _ (Option.some.inj hf).symm)
    exact hq
  · have hf := zf h15 hf
    refine z_iload_n X dX6_filledCards_9 rfl 1 rfl ?_
    refine z_aload_n X dX6_filledCards_10 rfl 2 rfl ?_
    refine gf_X6_20 X dX6_filledCards_11 ?_
    refine z_iload_n X dX6_filledCards_14 rfl 0 rfl ?_
    obtain ⟨h10, hf⟩ := zc_sp hf
    refine z_aald (ty := .object "LevelledInk$Card") X zc_13 zl_13 rfl rfl (zin_sp h10) dX6_filledCards_15 ?_
    obtain ⟨r12, h11, hf⟩ := zb1_sp hf
    refine gc_X6_91 (st := [.int x2]) X (zin_lt h10) (mtX2_isNothing κ.2.1 κ.2.2.2.2.2.2.2.2.2.2.1 G (zin_lt h10) h11) rfl rfl (Nat.le_of_ble_eq_true rfl) (Nat.le_of_ble_eq_true rfl) (Nat.le_of_ble_eq_true rfl) dX6_filledCards_16 ?_
    have hj : zV κ G 27 [(2, .int x1), (1, .int x2), (0, .ref (G.1 0))] [.int (if r12 = 0 then (1 : Int32) else (0 : Int32)), .int x2] M F := by
      refine z_iadd X dX6_filledCards_27 ?_
      refine z_nmI hf (fun x14 hf => ?_)
      refine z_istore_n (lv' := [(1, .int x14), (2, .int x1), (0, .ref (G.1 0))]) X dX6_filledCards_28 rfl hm (by decide) rfl ?_
      refine z_iinc (lv' := [(2, .int (x1 + (1 : Int32))), (1, .int x14), (0, .ref (G.1 0))]) (v := x1 + (1 : Int32)) X dX6_filledCards_29 (j := 1) rfl rfl hm (by decide) rfl ?_
      refine z_goto (tgt := 4) X dX6_filledCards_32 (by decide) ?_
      have hq := hi5 _ (Option.some.inj hf).symm
      exact hq
    refine z_if_eq (tgt := 26) X dX6_filledCards_19 (by decide) (fun h13 => ?_) (fun h13 => ?_)
    · try simp only [if_pos h13] at hj
      refine z_iconst (v := (1 : Int32)) X dX6_filledCards_26 (by decide) ?_
      exact hj
    · try simp only [if_neg h13] at hj
      refine z_iconst (v := (0 : Int32)) X dX6_filledCards_22 (by decide) ?_
      refine z_goto (tgt := 27) X dX6_filledCards_23 (by decide) ?_
      exact hj
set_option maxHeartbeats 4000000 in
set_option maxRecDepth 100000 in
theorem mtX6_many (l : Launch) (D : va_G) (G : zG) {p1 : Int32} {M : zMem} {F : Int64} {ro : Int32} {Mo : zMem} (hf : fX6_many p1 M = some (ro, Mo)) : zCM l yX6_many wX6_many { frames := 5, cells := 0, slots := 0, locals := 113 } D G [.ref (G.1 0), .int p1] M F (some (.int ro)) Mo F := by
  refine zCM.ofV (own := RX6) (cc := cX6_many) (maxL := 2) (ret := (some .int)) (lv := [(0, .ref (G.1 0)), (1, .int p1)]) (by decide) rfl rfl (Nat.le_of_ble_eq_true rfl) rfl (fun κ X Z hm hκ1 hκ2 => ?_)
  subst hκ1 hκ2
  unfold fX6_many at hf
  refine z_iload_n X dX6_many_0 rfl 1 rfl ?_
  by_cases h1 : p1 = (0 : Int32)
  · have hf := zt h1 hf
    refine z_tableIn (tgt := 44) X dX6_many_1 (by rw [h1]; decide) (by rw [h1]; decide) (by rw [h1]; rfl) (by decide) ?_
    refine z_aload_n X dX6_many_44 rfl 0 rfl ?_
    refine gf_X6_12 X dX6_many_45 ?_
    obtain ⟨r3, h2, hf⟩ := zb1_sp hf
    refine gc_X6_98 (st := []) X (mtX4_width κ.2.1 κ.2.2.2.2.2.2.2.2.2.2.1 G  h2) rfl rfl (Nat.le_of_ble_eq_true rfl) (Nat.le_of_ble_eq_true rfl) (Nat.le_of_ble_eq_true rfl) dX6_many_48 ?_
    exact z_iret X (zR_iM hf Z) dX6_many_51
  · have hf := zf h1 hf
    by_cases h4 : p1 = (1 : Int32)
    · have hf := zt h4 hf
      refine z_tableIn (tgt := 52) X dX6_many_1 (by rw [h4]; decide) (by rw [h4]; decide) (by rw [h4]; rfl) (by decide) ?_
      refine z_aload_n X dX6_many_52 rfl 0 rfl ?_
      refine gf_X6_12 X dX6_many_53 ?_
      obtain ⟨r6, h5, hf⟩ := zb1_sp hf
      refine gc_X6_54 (st := []) X (mtX4_ink κ.2.1 κ.2.2.2.2.2.2.2.2.2.2.1 G  h5) rfl rfl (Nat.le_of_ble_eq_true rfl) (Nat.le_of_ble_eq_true rfl) (Nat.le_of_ble_eq_true rfl) dX6_many_56 ?_
      exact z_iret X (zR_iM hf Z) dX6_many_59
    · have hf := zf h4 hf
      by_cases h7 : p1 = (2 : Int32)
      · have hf := zt h7 hf
        refine z_tableIn (tgt := 60) X dX6_many_1 (by rw [h7]; decide) (by rw [h7]; decide) (by rw [h7]; rfl) (by decide) ?_
        refine z_aload_n X dX6_many_60 rfl 0 rfl ?_
        refine gf_X6_34 X dX6_many_61 ?_
        refine z_aload_n X dX6_many_64 rfl 0 rfl ?_
        refine gf_X6_12 X dX6_many_65 ?_
        obtain ⟨M9, h8, hf⟩ := zb1_sp hf
        refine gc_X6_171 (st := []) X (mtX5_find κ.2.1 κ.2.2.2.2.2.2.2.2.2.2.1 G  h8) rfl rfl (Nat.le_of_ble_eq_true rfl) (Nat.le_of_ble_eq_true rfl) (Nat.le_of_ble_eq_true rfl) dX6_many_68 ?_
        refine z_aload_n X dX6_many_71 rfl 0 rfl ?_
        refine gf_X6_34 X dX6_many_72 ?_
        obtain ⟨r11, h10, hf⟩ := zb1_sp hf
        refine gc_X6_175 (st := []) X (mtX5_runs κ.2.1 κ.2.2.2.2.2.2.2.2.2.2.1 G  h10) rfl rfl (Nat.le_of_ble_eq_true rfl) (Nat.le_of_ble_eq_true rfl) (Nat.le_of_ble_eq_true rfl) dX6_many_75 ?_
        exact z_iret X (zR_iM hf Z) dX6_many_78
      · have hf := zf h7 hf
        by_cases h12 : p1 = (3 : Int32)
        · have hf := zt h12 hf
          refine z_tableIn (tgt := 79) X dX6_many_1 (by rw [h12]; decide) (by rw [h12]; decide) (by rw [h12]; rfl) (by decide) ?_
          refine z_aload_n X dX6_many_79 rfl 0 rfl ?_
          refine gf_X6_34 X dX6_many_80 ?_
          refine z_aload_n X dX6_many_83 rfl 0 rfl ?_
          refine gf_X6_12 X dX6_many_84 ?_
          obtain ⟨M14, h13, hf⟩ := zb1_sp hf
          refine gc_X6_171 (st := []) X (mtX5_find κ.2.1 κ.2.2.2.2.2.2.2.2.2.2.1 G  h13) rfl rfl (Nat.le_of_ble_eq_true rfl) (Nat.le_of_ble_eq_true rfl) (Nat.le_of_ble_eq_true rfl) dX6_many_87 ?_
          refine z_aload_n X dX6_many_90 rfl 0 rfl ?_
          refine gf_X6_34 X dX6_many_91 ?_
          obtain ⟨r16, h15, hf⟩ := zb1_sp hf
          refine gc_X6_190 (st := []) X (mtX5_count κ.2.1 κ.2.2.2.2.2.2.2.2.2.2.1 G  h15) rfl rfl (Nat.le_of_ble_eq_true rfl) (Nat.le_of_ble_eq_true rfl) (Nat.le_of_ble_eq_true rfl) dX6_many_94 ?_
          exact z_iret X (zR_iM hf Z) dX6_many_97
        · have hf := zf h12 hf
          by_cases h17 : p1 = (4 : Int32)
          · have hf := zt h17 hf
            refine z_tableIn (tgt := 98) X dX6_many_1 (by rw [h17]; decide) (by rw [h17]; decide) (by rw [h17]; rfl) (by decide) ?_
            refine z_aload_n X dX6_many_98 rfl 0 rfl ?_
            refine gf_X6_12 X dX6_many_99 ?_
            obtain ⟨r19, h18, hf⟩ := zb1_sp hf
            refine gc_X6_249 (st := []) X (mtX4_allFeet κ.2.1 κ.2.2.2.2.2.2.2.2.2.2.1 G  h18) rfl rfl (Nat.le_of_ble_eq_true rfl) (Nat.le_of_ble_eq_true rfl) (Nat.le_of_ble_eq_true rfl) dX6_many_102 ?_
            exact z_iret X (zR_iM hf Z) dX6_many_105
          · have hf := zf h17 hf
            by_cases h20 : p1 = (5 : Int32)
            · have hf := zt h20 hf
              refine z_tableIn (tgt := 106) X dX6_many_1 (by rw [h20]; decide) (by rw [h20]; decide) (by rw [h20]; rfl) (by decide) ?_
              refine z_aload_n X dX6_many_106 rfl 0 rfl ?_
              refine gf_X6_12 X dX6_many_107 ?_
              obtain ⟨r22, h21, hf⟩ := zb1_sp hf
              refine gc_X6_243 (st := []) X (mtX4_moves κ.2.1 κ.2.2.2.2.2.2.2.2.2.2.1 G  h21) rfl rfl (Nat.le_of_ble_eq_true rfl) (Nat.le_of_ble_eq_true rfl) (Nat.le_of_ble_eq_true rfl) dX6_many_110 ?_
              exact z_iret X (zR_iM hf Z) dX6_many_113
            · have hf := zf h20 hf
              by_cases h23 : p1 = (6 : Int32)
              · have hf := zt h23 hf
                refine z_tableIn (tgt := 114) X dX6_many_1 (by rw [h23]; decide) (by rw [h23]; decide) (by rw [h23]; rfl) (by decide) ?_
                refine z_aload_n X dX6_many_114 rfl 0 rfl ?_
                obtain ⟨r25, h24, hf⟩ := zb1_sp hf
                refine gc_X6_252 (st := []) X (mtX6_filledCards κ.2.1 κ.2.2.2.2.2.2.2.2.2.2.1 G  h24) rfl rfl (Nat.le_of_ble_eq_true rfl) (Nat.le_of_ble_eq_true rfl) (Nat.le_of_ble_eq_true rfl) dX6_many_115 ?_
                exact z_iret X (zR_iM hf Z) dX6_many_118
              · have hf := zf h23 hf
                refine z_tableOut (tgt := 119) X dX6_many_1 (by have q0 := lv_neT h1 (a := 0) rfl; have q1 := lv_neT h4 (a := 1) rfl; have q2 := lv_neT h7 (a := 2) rfl; have q3 := lv_neT h12 (a := 3) rfl; have q4 := lv_neT h17 (a := 4) rfl; have q5 := lv_neT h20 (a := 5) rfl; have q6 := lv_neT h23 (a := 6) rfl; omega) (by decide) ?_
                refine z_bipush (v := (-2 : Int32)) X dX6_many_119 (by decide) ?_
                exact z_iret X (zR_iM hf Z) dX6_many_121
set_option maxHeartbeats 4000000 in
set_option maxRecDepth 100000 in
theorem mtX7_refused (l : Launch) (D : va_G) (G : zG) {p1 : Int32} {M : zMem} {F : Int64} {ro : Int32} {Mo : zMem} (hf : fX7_refused p1 M = some (ro, Mo)) : zCM l yX7_refused wX7_refused { frames := 0, cells := 0, slots := 0, locals := 0 } D G [.ref (G.1 60), .int p1] M F (some (.int ro)) Mo F := by
  refine zCM.ofV (own := RX7) (cc := cX7_refused) (maxL := 2) (ret := (some .int)) (lv := [(0, .ref (G.1 60)), (1, .int p1)]) (by decide) rfl rfl (Nat.le_of_ble_eq_true rfl) rfl (fun κ X Z hm hκ1 hκ2 => ?_)
  subst hκ1 hκ2
  unfold fX7_refused at hf
  refine z_aload_n X dX7_refused_0 rfl 0 rfl ?_
  refine z_iconst (v := (0 : Int32)) X dX7_refused_1 (by decide) ?_
  refine pf_X7_63 X dX7_refused_2 ?_
  refine z_nmM hf (fun M1 hf => ?_)
  refine z_iload_n X dX7_refused_5 rfl 1 rfl ?_
  exact z_iret X (zR_iM hf Z) dX7_refused_6
set_option maxHeartbeats 4000000 in
set_option maxRecDepth 100000 in
theorem mtX7_fails (l : Launch) (D : va_G) (G : zG) {p1 : Int32} {M : zMem} {F : Int64} {ro : Int32} {Mo : zMem} (hf : fX7_fails p1 M = some (ro, Mo)) : zCM l yX7_fails wX7_fails { frames := 0, cells := 0, slots := 0, locals := 0 } D G [.ref (G.1 60), .int p1] M F (some (.int ro)) Mo F := by
  refine zCM.ofV (own := RX7) (cc := cX7_fails) (maxL := 2) (ret := (some .int)) (lv := [(0, .ref (G.1 60)), (1, .int p1)]) (by decide) rfl rfl (Nat.le_of_ble_eq_true rfl) rfl (fun κ X Z hm hκ1 hκ2 => ?_)
  subst hκ1 hκ2
  unfold fX7_fails at hf
  refine z_aload_n X dX7_fails_0 rfl 0 rfl ?_
  refine z_iload_n X dX7_fails_1 rfl 1 rfl ?_
  refine pf_X7_63 X dX7_fails_2 ?_
  refine z_nmM hf (fun M1 hf => ?_)
  refine z_bipush (v := (-10 : Int32)) X dX7_fails_5 (by decide) ?_
  refine z_iload_n X dX7_fails_7 rfl 1 rfl ?_
  refine z_isub X dX7_fails_8 ?_
  exact z_iret X (zR_iM hf Z) dX7_fails_9
set_option maxHeartbeats 4000000 in
set_option maxRecDepth 100000 in
theorem mtX7_within (l : Launch) (D : va_G) (G : zG) {p0 : Int32} {p1 : Int32} {p2 : Int32} {M : zMem} {F : Int64} {ro : Int32} (hf : fX7_within p0 p1 p2 = some ro) : zCM l yX7_within wX7_within { frames := 0, cells := 0, slots := 0, locals := 0 } D G [.int p0, .int p1, .int p2] M F (some (.int ro)) M F := by
  refine zCM.ofV (own := RX7) (cc := cX7_within) (maxL := 3) (ret := (some .boolean)) (lv := [(0, .int p0), (1, .int p1), (2, .int p2)]) (by decide) rfl rfl (Nat.le_of_ble_eq_true rfl) rfl (fun κ X Z hm hκ1 hκ2 => ?_)
  subst hκ1 hκ2
  unfold fX7_within at hf
  refine z_iload_n X dX7_within_0 rfl 0 rfl ?_
  refine z_iload_n X dX7_within_1 rfl 1 rfl ?_
  have hj : zV κ G 15 [(0, .int p0), (1, .int p1), (2, .int p2)] [.int (if p0 < p1 then (0 : Int32) else (if p2 < p0 then (0 : Int32) else (1 : Int32)))] M F := by
    exact z_zret X (z01_ite (Or.inl rfl) (z01_ite (Or.inl rfl) (Or.inr rfl))) (zR_i hf Z) dX7_within_15
  refine z_icmp_lt (tgt := 14) X dX7_within_2 (by decide) (fun h1 => ?_) (fun h1 => ?_)
  · try simp only [if_pos h1] at hj
    refine z_iconst (v := (0 : Int32)) X dX7_within_14 (by decide) ?_
    exact hj
  · try simp only [if_neg h1] at hj
    refine z_iload_n X dX7_within_5 rfl 0 rfl ?_
    refine z_iload_n X dX7_within_6 rfl 2 rfl ?_
    refine z_icmp_gt (tgt := 14) X dX7_within_7 (by decide) (fun h2 => ?_) (fun h2 => ?_)
    · try simp only [if_pos h2] at hj
      refine z_iconst (v := (0 : Int32)) X dX7_within_14 (by decide) ?_
      exact hj
    · try simp only [if_neg h2] at hj
      refine z_iconst (v := (1 : Int32)) X dX7_within_10 (by decide) ?_
      refine z_goto (tgt := 15) X dX7_within_11 (by decide) ?_
      exact hj
set_option maxHeartbeats 4000000 in
set_option maxRecDepth 100000 in
theorem mtX7_isColumn (l : Launch) (D : va_G) (G : zG) {p1 : Int32} {M : zMem} {F : Int64} {ro : Int32} (hf : fX7_isColumn p1 M = some ro) : zCM l yX7_isColumn wX7_isColumn { frames := 1, cells := 0, slots := 0, locals := 22 } D G [.ref (G.1 60), .int p1] M F (some (.int ro)) M F := by
  refine zCM.ofV (own := RX7) (cc := cX7_isColumn) (maxL := 2) (ret := (some .boolean)) (lv := [(0, .ref (G.1 60)), (1, .int p1)]) (by decide) rfl rfl (Nat.le_of_ble_eq_true rfl) rfl (fun κ X Z hm hκ1 hκ2 => ?_)
  subst hκ1 hκ2
  unfold fX7_isColumn at hf
  refine z_iload_n X dX7_isColumn_0 rfl 1 rfl ?_
  refine z_iconst (v := (0 : Int32)) X dX7_isColumn_1 (by decide) ?_
  refine z_aload_n X dX7_isColumn_2 rfl 0 rfl ?_
  refine gf_X7_7 X dX7_isColumn_3 ?_
  refine z_iconst (v := (1 : Int32)) X dX7_isColumn_6 (by decide) ?_
  refine z_isub X dX7_isColumn_7 ?_
  obtain ⟨r2, h1, hf⟩ := zb1_sp hf
  refine gc_X7_66 (st := []) X (mtX7_within κ.2.1 κ.2.2.2.2.2.2.2.2.2.2.1 G  h1) rfl rfl (Nat.le_of_ble_eq_true rfl) (Nat.le_of_ble_eq_true rfl) (Nat.le_of_ble_eq_true rfl) dX7_isColumn_8 ?_
  obtain ⟨h3, hf⟩ := zc_sp hf
  exact z_zret X (z01_sp h3) (zR_i hf Z) dX7_isColumn_11
set_option maxHeartbeats 4000000 in
set_option maxRecDepth 100000 in
theorem mtX7_isRow (l : Launch) (D : va_G) (G : zG) {p0 : Int32} {M : zMem} {F : Int64} {ro : Int32} (hf : fX7_isRow p0 = some ro) : zCM l yX7_isRow wX7_isRow { frames := 1, cells := 0, slots := 0, locals := 22 } D G [.int p0] M F (some (.int ro)) M F := by
  refine zCM.ofV (own := RX7) (cc := cX7_isRow) (maxL := 1) (ret := (some .boolean)) (lv := [(0, .int p0)]) (by decide) rfl rfl (Nat.le_of_ble_eq_true rfl) rfl (fun κ X Z hm hκ1 hκ2 => ?_)
  subst hκ1 hκ2
  unfold fX7_isRow at hf
  refine z_iload_n X dX7_isRow_0 rfl 0 rfl ?_
  refine z_iconst (v := (0 : Int32)) X dX7_isRow_1 (by decide) ?_
  refine z_bipush (v := (31 : Int32)) X dX7_isRow_2 (by decide) ?_
  obtain ⟨r2, h1, hf⟩ := zb1_sp hf
  refine gc_X7_66 (st := []) X (mtX7_within κ.2.1 κ.2.2.2.2.2.2.2.2.2.2.1 G  h1) rfl rfl (Nat.le_of_ble_eq_true rfl) (Nat.le_of_ble_eq_true rfl) (Nat.le_of_ble_eq_true rfl) dX7_isRow_4 ?_
  obtain ⟨h3, hf⟩ := zc_sp hf
  exact z_zret X (z01_sp h3) (zR_i hf Z) dX7_isRow_7
set_option maxHeartbeats 4000000 in
set_option maxRecDepth 100000 in
theorem mtX7_isDot (l : Launch) (D : va_G) (G : zG) {p1 : Int32} {p2 : Int32} {M : zMem} {F : Int64} {ro : Int32} (hf : fX7_isDot p1 p2 M = some ro) : zCM l yX7_isDot wX7_isDot { frames := 2, cells := 0, slots := 0, locals := 43 } D G [.ref (G.1 60), .int p1, .int p2] M F (some (.int ro)) M F := by
  refine zCM.ofV (own := RX7) (cc := cX7_isDot) (maxL := 3) (ret := (some .boolean)) (lv := [(0, .ref (G.1 60)), (1, .int p1), (2, .int p2)]) (by decide) rfl rfl (Nat.le_of_ble_eq_true rfl) rfl (fun κ X Z hm hκ1 hκ2 => ?_)
  subst hκ1 hκ2
  unfold fX7_isDot at hf
  refine z_aload_n X dX7_isDot_0 rfl 0 rfl ?_
  refine z_iload_n X dX7_isDot_1 rfl 1 rfl ?_
  obtain ⟨r2, h1, hf⟩ := zb1_sp hf
  refine gc_X7_70 (st := []) X (mtX7_isColumn κ.2.1 κ.2.2.2.2.2.2.2.2.2.2.1 G  h1) rfl rfl (Nat.le_of_ble_eq_true rfl) (Nat.le_of_ble_eq_true rfl) (Nat.le_of_ble_eq_true rfl) dX7_isDot_2 ?_
  obtain ⟨k4, k4e, hf⟩ := zj_sp hf
  have hj5 : ∀ (x3 : Int32), k4 x3 = some ro → zV κ G 34 [(0, .ref (G.1 60)), (1, .int p1), (2, .int p2)] [.int x3] M F := by
    intro x3 hf
    rw [k4e] at hf
    obtain ⟨h12, hf⟩ := zc_sp hf
    exact z_zret X (z01_sp h12) (zR_i hf Z) dX7_isDot_34
  clear k4e
  refine z_if_eq (tgt := 33) X dX7_isDot_5 (by decide) (fun h11 => ?_) (fun h11 => ?_)
  · have hf := zt h11 hf
    refine z_iconst (v := (0 : Int32)) X dX7_isDot_33 (by decide) ?_
    exact hj5 (0 : Int32) hf
  · have hf := zf h11 hf
    refine z_iload_n X dX7_isDot_8 rfl 2 rfl ?_
    obtain ⟨r7, h6, hf⟩ := zb1_sp hf
    refine gc_X7_74 (st := []) X (mtX7_isRow κ.2.1 κ.2.2.2.2.2.2.2.2.2.2.1 G  h6) rfl rfl (Nat.le_of_ble_eq_true rfl) (Nat.le_of_ble_eq_true rfl) (Nat.le_of_ble_eq_true rfl) dX7_isDot_9 ?_
    refine z_if_eq (tgt := 33) X dX7_isDot_12 (by decide) (fun h10 => ?_) (fun h10 => ?_)
    · have hf := zt h10 hf
      refine z_iconst (v := (0 : Int32)) X dX7_isDot_33 (by decide) ?_
      exact hj5 (0 : Int32) hf
    · have hf := zf h10 hf
      refine z_aload_n X dX7_isDot_15 rfl 0 rfl ?_
      refine gf_X7_13 X dX7_isDot_16 ?_
      refine z_bipush (v := (32 : Int32)) X dX7_isDot_19 (by decide) ?_
      refine z_iload_n X dX7_isDot_21 rfl 1 rfl ?_
      refine z_imul X dX7_isDot_22 ?_
      refine z_iload_n X dX7_isDot_23 rfl 2 rfl ?_
      refine z_iadd X dX7_isDot_24 ?_
      obtain ⟨h8, hf⟩ := zc_sp hf
      refine z_zald X zc_61 zl_61 (zin_sp h8) dX7_isDot_25 ?_
      refine z_if_eq (tgt := 33) X dX7_isDot_26 (by decide) (fun h9 => ?_) (fun h9 => ?_)
      · have hf := zt h9 hf
        refine z_iconst (v := (0 : Int32)) X dX7_isDot_33 (by decide) ?_
        exact hj5 (0 : Int32) hf
      · have hf := zf h9 hf
        refine z_iconst (v := (1 : Int32)) X dX7_isDot_29 (by decide) ?_
        refine z_goto (tgt := 34) X dX7_isDot_30 (by decide) ?_
        exact hj5 (1 : Int32) hf
set_option maxHeartbeats 4000000 in
set_option maxRecDepth 100000 in
theorem mtX7_inkOf (l : Launch) (D : va_G) (G : zG) {M : zMem} {F : Int64} {ro : Int32} (hf : fX7_inkOf M = some ro) : zCM l yX7_inkOf wX7_inkOf { frames := 0, cells := 0, slots := 0, locals := 0 } D G [.ref (G.1 60)] M F (some (.int ro)) M F := by
  refine zCM.ofV (own := RX7) (cc := cX7_inkOf) (maxL := 3) (ret := (some .int)) (lv := [(0, .ref (G.1 60))]) (by decide) rfl rfl (Nat.le_of_ble_eq_true rfl) rfl (fun κ X Z hm hκ1 hκ2 => ?_)
  subst hκ1 hκ2
  unfold fX7_inkOf at hf
  refine z_iconst (v := (0 : Int32)) X dX7_inkOf_0 (by decide) ?_
  refine z_istore_n (lv' := [(1, .int (0 : Int32)), (0, .ref (G.1 60))]) X dX7_inkOf_1 rfl hm (by decide) rfl ?_
  refine z_iconst (v := (0 : Int32)) X dX7_inkOf_2 (by decide) ?_
  refine z_istore_n (lv' := [(2, .int (0 : Int32)), (1, .int (0 : Int32)), (0, .ref (G.1 60))]) X dX7_inkOf_3 rfl hm (by decide) rfl ?_
  obtain ⟨b8, hb9, hf⟩ := zb1_sp hf
  have hX3 : ∀ t, t = b8 → zu2 (fun (x14 : Int32) (x15 : Int32) => zV κ G 34 [(2, .int x14), (1, .int x15), (0, .ref (G.1 60))] [] M F) t := by
    intro t ht
    subst ht
    obtain ⟨x14, x15⟩ := t
    show zV κ G 34 [(2, .int x14), (1, .int x15), (0, .ref (G.1 60))] [] M F
    refine z_iload_n X dX7_inkOf_34 rfl 1 rfl ?_
    exact z_iret X (zR_i hf Z) dX7_inkOf_35
  refine zlp_walk (P := zu2 (fun (x1 : Int32) (x2 : Int32) => zV κ G 4 [(2, .int x1), (1, .int x2), (0, .ref (G.1 60))] [] M F)) (fun a16 w7 hf hi5 hx6 => ?_) _ _ hb9
  obtain ⟨x1, x2⟩ := a16
  show zV κ G 4 [(2, .int x1), (1, .int x2), (0, .ref (G.1 60))] [] M F
  replace hf : fX7_inkOf_L4 M x1 x2 = some w7 := hf
  unfold fX7_inkOf_L4 at hf
  refine z_iload_n X dX7_inkOf_4 rfl 0 rfl ?_
  refine z_sipush (v := (768 : Int32)) X dX7_inkOf_5 (by decide) ?_
  refine z_icmp_ge (tgt := 34) X dX7_inkOf_8 (by decide) (fun h13 => ?_) (fun h13 => ?_)
  · have hf := zt h13 hf
    have hq := hX3 _ (hx6 _ (Option.some.inj hf).symm)
    exact hq
  · have hf := zf h13 hf
    refine z_iload_n X dX7_inkOf_11 rfl 1 rfl ?_
    refine z_aload_n X dX7_inkOf_12 rfl 2 rfl ?_
    refine gf_X7_13 X dX7_inkOf_13 ?_
    refine z_iload_n X dX7_inkOf_16 rfl 0 rfl ?_
    obtain ⟨h10, hf⟩ := zc_sp hf
    refine z_zald X zc_61 zl_61 (zin_sp h10) dX7_inkOf_17 ?_
    have hj : zV κ G 26 [(2, .int x1), (1, .int x2), (0, .ref (G.1 60))] [.int (if (M 61 x1.toNatClampNeg) = 0 then (0 : Int32) else (1 : Int32)), .int x2] M F := by
      refine z_iadd X dX7_inkOf_26 ?_
      refine z_nmI hf (fun x12 hf => ?_)
      refine z_istore_n (lv' := [(1, .int x12), (2, .int x1), (0, .ref (G.1 60))]) X dX7_inkOf_27 rfl hm (by decide) rfl ?_
      refine z_iinc (lv' := [(2, .int (x1 + (1 : Int32))), (1, .int x12), (0, .ref (G.1 60))]) (v := x1 + (1 : Int32)) X dX7_inkOf_28 (j := 1) rfl rfl hm (by decide) rfl ?_
      refine z_goto (tgt := 4) X dX7_inkOf_31 (by decide) ?_
      have hq := hi5 _ (Option.some.inj hf).symm
      exact hq
    refine z_if_eq (tgt := 25) X dX7_inkOf_18 (by decide) (fun h11 => ?_) (fun h11 => ?_)
    · try simp only [if_pos h11] at hj
      refine z_iconst (v := (0 : Int32)) X dX7_inkOf_25 (by decide) ?_
      exact hj
    · try simp only [if_neg h11] at hj
      refine z_iconst (v := (1 : Int32)) X dX7_inkOf_21 (by decide) ?_
      refine z_goto (tgt := 26) X dX7_inkOf_22 (by decide) ?_
      exact hj
set_option maxHeartbeats 4000000 in
set_option maxRecDepth 100000 in
theorem mtX7_page (l : Launch) (D : va_G) (G : zG) {p1 : Int32} {M : zMem} {F : Int64} {ro : Int32} {Mo : zMem} (hf : fX7_page p1 M = some (ro, Mo)) : zCM l yX7_page wX7_page { frames := 1, cells := 0, slots := 0, locals := 22 } D G [.ref (G.1 60), .int p1] M F (some (.int ro)) Mo F := by
  refine zCM.ofV (own := RX7) (cc := cX7_page) (maxL := 4) (ret := (some .int)) (lv := [(0, .ref (G.1 60)), (1, .int p1)]) (by decide) rfl rfl (Nat.le_of_ble_eq_true rfl) rfl (fun κ X Z hm hκ1 hκ2 => ?_)
  subst hκ1 hκ2
  unfold fX7_page at hf
  refine z_iload_n X dX7_page_0 rfl 1 rfl ?_
  refine z_iconst (v := (1 : Int32)) X dX7_page_1 (by decide) ?_
  refine z_bipush (v := (24 : Int32)) X dX7_page_2 (by decide) ?_
  obtain ⟨r2, h1, hf⟩ := zb1_sp hf
  refine gc_X7_66 (st := []) X (mtX7_within κ.2.1 κ.2.2.2.2.2.2.2.2.2.2.1 G  h1) rfl rfl (Nat.le_of_ble_eq_true rfl) (Nat.le_of_ble_eq_true rfl) (Nat.le_of_ble_eq_true rfl) dX7_page_4 ?_
  refine z_if_ne (tgt := 13) X dX7_page_7 (by decide) (fun h22 => ?_) (fun h22 => ?_)
  · have hf := zf h22 hf
    refine z_aload_n X dX7_page_13 rfl 0 rfl ?_
    obtain ⟨r4, h3, hf⟩ := zb1_sp hf
    refine gc_X7_77 (st := []) X (mtX7_inkOf κ.2.1 κ.2.2.2.2.2.2.2.2.2.2.1 G  h3) rfl rfl (Nat.le_of_ble_eq_true rfl) (Nat.le_of_ble_eq_true rfl) (Nat.le_of_ble_eq_true rfl) dX7_page_14 ?_
    refine z_istore_n (lv' := [(2, .int r4), (0, .ref (G.1 60)), (1, .int p1)]) X dX7_page_17 rfl hm (by decide) rfl ?_
    refine z_iconst (v := (0 : Int32)) X dX7_page_18 (by decide) ?_
    refine z_istore_n (lv' := [(3, .int (0 : Int32)), (2, .int r4), (0, .ref (G.1 60)), (1, .int p1)]) X dX7_page_19 rfl hm (by decide) rfl ?_
    obtain ⟨b12, hb13, hf⟩ := zb1_sp hf
    have hX7 : ∀ t, t = b12 → zu2 (fun (x17 : Int32) (M18 : zMem) => zV κ G 40 [(3, .int x17), (2, .int r4), (0, .ref (G.1 60)), (1, .int p1)] [] M18 F) t := by
      intro t ht
      subst ht
      obtain ⟨x17, M18⟩ := t
      show zV κ G 40 [(3, .int x17), (2, .int r4), (0, .ref (G.1 60)), (1, .int p1)] [] M18 F
      refine z_aload_n X dX7_page_40 rfl 2 rfl ?_
      refine z_iload_n X dX7_page_41 rfl 3 rfl ?_
      refine pf_X7_7 X dX7_page_42 ?_
      refine z_nmM hf (fun M19 hf => ?_)
      refine z_aload_n X dX7_page_45 rfl 2 rfl ?_
      refine z_iconst (v := (0 : Int32)) X dX7_page_46 (by decide) ?_
      refine pf_X7_81 X dX7_page_47 ?_
      refine z_nmM hf (fun M20 hf => ?_)
      refine z_iload_n X dX7_page_50 rfl 1 rfl ?_
      exact z_iret X (zR_iM hf Z) dX7_page_51
    refine zlp_walk (P := zu2 (fun (x5 : Int32) (M6 : zMem) => zV κ G 20 [(3, .int x5), (2, .int r4), (0, .ref (G.1 60)), (1, .int p1)] [] M6 F)) (fun a21 w11 hf hi9 hx10 => ?_) _ _ hb13
    obtain ⟨x5, M6⟩ := a21
    show zV κ G 20 [(3, .int x5), (2, .int r4), (0, .ref (G.1 60)), (1, .int p1)] [] M6 F
    replace hf : fX7_page_L20 x5 M6 = some w11 := hf
    unfold fX7_page_L20 at hf
    refine z_iload_n X dX7_page_20 rfl 0 rfl ?_
    refine z_sipush (v := (768 : Int32)) X dX7_page_21 (by decide) ?_
    refine z_icmp_ge (tgt := 40) X dX7_page_24 (by decide) (fun h16 => ?_) (fun h16 => ?_)
    · have hf := zt h16 hf
      have hq := hX7 _ (hx10 _ (Option.some.inj hf).symm)
      exact hq
    · have hf := zf h16 hf
      refine z_aload_n X dX7_page_27 rfl 2 rfl ?_
      refine gf_X7_13 X dX7_page_28 ?_
      refine z_iload_n X dX7_page_31 rfl 0 rfl ?_
      refine z_iconst (v := (0 : Int32)) X dX7_page_32 (by decide) ?_
      obtain ⟨h14, hf⟩ := zc_sp hf
      refine z_zast X zc_61 zl_61 (zin_sp h14) dX7_page_33 ?_
      refine z_nmM hf (fun M15 hf => ?_)
      refine z_iinc (lv' := [(3, .int (x5 + (1 : Int32))), (2, .int r4), (0, .ref (G.1 60)), (1, .int p1)]) (v := x5 + (1 : Int32)) X dX7_page_34 (j := 0) rfl rfl hm (by decide) rfl ?_
      refine z_goto (tgt := 20) X dX7_page_37 (by decide) ?_
      have hq := hi9 _ (Option.some.inj hf).symm
      exact hq
  · have hf := zt h22 hf
    refine z_bipush (v := (-2 : Int32)) X dX7_page_10 (by decide) ?_
    exact z_iret X (zR_iM hf Z) dX7_page_12
set_option maxHeartbeats 4000000 in
set_option maxRecDepth 100000 in
theorem mtX7_dot (l : Launch) (D : va_G) (G : zG) {p1 : Int32} {p2 : Int32} {p3 : Int32} {M : zMem} {F : Int64} {ro : Int32} {Mo : zMem} (hf : fX7_dot p1 p2 p3 M = some (ro, Mo)) : zCM l yX7_dot wX7_dot { frames := 2, cells := 0, slots := 0, locals := 43 } D G [.ref (G.1 60), .int p1, .int p2, .int p3] M F (some (.int ro)) Mo F := by
  refine zCM.ofV (own := RX7) (cc := cX7_dot) (maxL := 5) (ret := (some .int)) (lv := [(0, .ref (G.1 60)), (1, .int p1), (2, .int p2), (3, .int p3)]) (by decide) rfl rfl (Nat.le_of_ble_eq_true rfl) rfl (fun κ X Z hm hκ1 hκ2 => ?_)
  subst hκ1 hκ2
  unfold fX7_dot at hf
  refine z_aload_n X dX7_dot_0 rfl 0 rfl ?_
  refine z_iload_n X dX7_dot_1 rfl 1 rfl ?_
  obtain ⟨r2, h1, hf⟩ := zb1_sp hf
  refine gc_X7_70 (st := []) X (mtX7_isColumn κ.2.1 κ.2.2.2.2.2.2.2.2.2.2.1 G  h1) rfl rfl (Nat.le_of_ble_eq_true rfl) (Nat.le_of_ble_eq_true rfl) (Nat.le_of_ble_eq_true rfl) dX7_dot_2 ?_
  refine z_if_eq (tgt := 15) X dX7_dot_5 (by decide) (fun h16 => ?_) (fun h16 => ?_)
  · have hf := zt h16 hf
    refine z_iconst (v := (-1 : Int32)) X dX7_dot_15 (by decide) ?_
    exact z_iret X (zR_iM hf Z) dX7_dot_16
  · have hf := zf h16 hf
    refine z_iload_n X dX7_dot_8 rfl 2 rfl ?_
    obtain ⟨r4, h3, hf⟩ := zb1_sp hf
    refine gc_X7_74 (st := []) X (mtX7_isRow κ.2.1 κ.2.2.2.2.2.2.2.2.2.2.1 G  h3) rfl rfl (Nat.le_of_ble_eq_true rfl) (Nat.le_of_ble_eq_true rfl) (Nat.le_of_ble_eq_true rfl) dX7_dot_9 ?_
    refine z_if_ne (tgt := 17) X dX7_dot_12 (by decide) (fun h15 => ?_) (fun h15 => ?_)
    · have hf := zf h15 hf
      refine z_iload_n X dX7_dot_17 rfl 3 rfl ?_
      refine z_iconst (v := (0 : Int32)) X dX7_dot_18 (by decide) ?_
      refine z_iconst (v := (1 : Int32)) X dX7_dot_19 (by decide) ?_
      obtain ⟨r6, h5, hf⟩ := zb1_sp hf
      refine gc_X7_66 (st := []) X (mtX7_within κ.2.1 κ.2.2.2.2.2.2.2.2.2.2.1 G  h5) rfl rfl (Nat.le_of_ble_eq_true rfl) (Nat.le_of_ble_eq_true rfl) (Nat.le_of_ble_eq_true rfl) dX7_dot_20 ?_
      refine z_if_ne (tgt := 29) X dX7_dot_23 (by decide) (fun h14 => ?_) (fun h14 => ?_)
      · have hf := zf h14 hf
        refine z_aload_n X dX7_dot_29 rfl 0 rfl ?_
        refine gf_X7_13 X dX7_dot_30 ?_
        refine z_bipush (v := (32 : Int32)) X dX7_dot_33 (by decide) ?_
        refine z_iload_n X dX7_dot_35 rfl 1 rfl ?_
        refine z_imul X dX7_dot_36 ?_
        refine z_iload_n X dX7_dot_37 rfl 2 rfl ?_
        refine z_iadd X dX7_dot_38 ?_
        obtain ⟨h7, hf⟩ := zc_sp hf
        refine z_zald X zc_61 zl_61 (zin_sp h7) dX7_dot_39 ?_
        have hj : zV κ G 48 [(0, .ref (G.1 60)), (1, .int p1), (2, .int p2), (3, .int p3)] [.int (if (M 61 (((32 : Int32) * p1) + p2).toNatClampNeg) = 0 then (0 : Int32) else (1 : Int32))] M F := by
          refine z_nmI hf (fun x9 hf => ?_)
          refine z_istore (lv' := [(4, .int x9), (0, .ref (G.1 60)), (1, .int p1), (2, .int p2), (3, .int p3)]) X dX7_dot_48 hm (by decide) rfl ?_
          refine z_aload_n X dX7_dot_50 rfl 1 rfl ?_
          refine gf_X7_13 X dX7_dot_51 ?_
          refine z_bipush (v := (32 : Int32)) X dX7_dot_54 (by decide) ?_
          refine z_iload_n X dX7_dot_56 rfl 2 rfl ?_
          refine z_imul X dX7_dot_57 ?_
          refine z_iload_n X dX7_dot_58 rfl 3 rfl ?_
          refine z_iadd X dX7_dot_59 ?_
          refine z_iload_n X dX7_dot_60 rfl 4 rfl ?_
          refine z_iconst (v := (1 : Int32)) X dX7_dot_61 (by decide) ?_
          have hj : zV κ G 70 [(4, .int x9), (0, .ref (G.1 60)), (1, .int p1), (2, .int p2), (3, .int p3)] [.int (if p3 = (1 : Int32) then (1 : Int32) else (0 : Int32)), .int (((32 : Int32) * p1) + p2), .ref (G.1 61)] M F := by
            obtain ⟨h11, hf⟩ := zc_sp hf
            refine z_zast X zc_61 zl_61 (zin_sp h11) dX7_dot_70 ?_
            refine z_nmM hf (fun M12 hf => ?_)
            refine z_aload_n X dX7_dot_71 rfl 1 rfl ?_
            refine z_iconst (v := (0 : Int32)) X dX7_dot_72 (by decide) ?_
            refine pf_X7_81 X dX7_dot_73 ?_
            refine z_nmM hf (fun M13 hf => ?_)
            refine z_iload X dX7_dot_76 0 rfl ?_
            exact z_iret X (zR_iM hf Z) dX7_dot_78
          refine z_icmp_ne (tgt := 69) X dX7_dot_62 (by decide) (fun h10 => ?_) (fun h10 => ?_)
          · try simp only [if_neg h10] at hj
            refine z_iconst (v := (0 : Int32)) X dX7_dot_69 (by decide) ?_
            exact hj
          · try simp only [if_pos h10] at hj
            refine z_iconst (v := (1 : Int32)) X dX7_dot_65 (by decide) ?_
            refine z_goto (tgt := 70) X dX7_dot_66 (by decide) ?_
            exact hj
        refine z_if_eq (tgt := 47) X dX7_dot_40 (by decide) (fun h8 => ?_) (fun h8 => ?_)
        · try simp only [if_pos h8] at hj
          refine z_iconst (v := (0 : Int32)) X dX7_dot_47 (by decide) ?_
          exact hj
        · try simp only [if_neg h8] at hj
          refine z_iconst (v := (1 : Int32)) X dX7_dot_43 (by decide) ?_
          refine z_goto (tgt := 48) X dX7_dot_44 (by decide) ?_
          exact hj
      · have hf := zt h14 hf
        refine z_bipush (v := (-2 : Int32)) X dX7_dot_26 (by decide) ?_
        exact z_iret X (zR_iM hf Z) dX7_dot_28
    · have hf := zt h15 hf
      refine z_iconst (v := (-1 : Int32)) X dX7_dot_15 (by decide) ?_
      exact z_iret X (zR_iM hf Z) dX7_dot_16
set_option maxHeartbeats 4000000 in
set_option maxRecDepth 100000 in
theorem mtX7_column (l : Launch) (D : va_G) (G : zG) {p1 : Int32} {M : zMem} {F : Int64} {ro : Int64} (hf : fX7_column p1 M = some ro) : zCM l yX7_column wX7_column { frames := 3, cells := 0, slots := 0, locals := 65 } D G [.ref (G.1 60), .int p1] M F (some (.long ro)) M F := by
  refine zCM.ofV (own := RX7) (cc := cX7_column) (maxL := 5) (ret := (some .long)) (lv := [(0, .ref (G.1 60)), (1, .int p1)]) (by decide) rfl rfl (Nat.le_of_ble_eq_true rfl) rfl (fun κ X Z hm hκ1 hκ2 => ?_)
  subst hκ1 hκ2
  unfold fX7_column at hf
  refine z_aload_n X dX7_column_0 rfl 0 rfl ?_
  refine z_iload_n X dX7_column_1 rfl 1 rfl ?_
  obtain ⟨r2, h1, hf⟩ := zb1_sp hf
  refine gc_X7_70 (st := []) X (mtX7_isColumn κ.2.1 κ.2.2.2.2.2.2.2.2.2.2.1 G  h1) rfl rfl (Nat.le_of_ble_eq_true rfl) (Nat.le_of_ble_eq_true rfl) (Nat.le_of_ble_eq_true rfl) dX7_column_2 ?_
  refine z_if_ne (tgt := 12) X dX7_column_5 (by decide) (fun h20 => ?_) (fun h20 => ?_)
  · have hf := zf h20 hf
    refine z_lconst (v := (0 : Int64)) X dX7_column_12 (by decide) ?_
    refine z_lstore_n (lv' := [(2, .long (0 : Int64)), (0, .ref (G.1 60)), (1, .int p1)]) X dX7_column_13 rfl hm (by decide) rfl ?_
    refine z_bipush (v := (31 : Int32)) X dX7_column_14 (by decide) ?_
    refine z_istore (lv' := [(4, .int (31 : Int32)), (2, .long (0 : Int64)), (0, .ref (G.1 60)), (1, .int p1)]) X dX7_column_16 hm (by decide) rfl ?_
    obtain ⟨b10, hb11, hf⟩ := zb1_sp hf
    have hX5 : ∀ t, t = b10 → zu2 (fun (x17 : Int32) (x18 : Int64) => zV κ G 51 [(4, .int x17), (2, .long x18), (0, .ref (G.1 60)), (1, .int p1)] [] M F) t := by
      intro t ht
      subst ht
      obtain ⟨x17, x18⟩ := t
      show zV κ G 51 [(4, .int x17), (2, .long x18), (0, .ref (G.1 60)), (1, .int p1)] [] M F
      refine z_lload_n X dX7_column_51 rfl 1 rfl ?_
      exact z_lret X (zR_l hf Z) dX7_column_52
    refine zlp_walk (P := zu2 (fun (x3 : Int32) (x4 : Int64) => zV κ G 18 [(4, .int x3), (2, .long x4), (0, .ref (G.1 60)), (1, .int p1)] [] M F)) (fun a19 w9 hf hi7 hx8 => ?_) _ _ hb11
    obtain ⟨x3, x4⟩ := a19
    show zV κ G 18 [(4, .int x3), (2, .long x4), (0, .ref (G.1 60)), (1, .int p1)] [] M F
    replace hf : fX7_column_L18 p1 M x3 x4 = some w9 := hf
    unfold fX7_column_L18 at hf
    refine z_iload X dX7_column_18 0 rfl ?_
    refine z_if_lt (tgt := 51) X dX7_column_20 (by decide) (fun h16 => ?_) (fun h16 => ?_)
    · have hf := zt h16 hf
      have hq := hX5 _ (hx8 _ (Option.some.inj hf).symm)
      exact hq
    · have hf := zf h16 hf
      refine z_ldc2 (v := (2 : Int64)) X dX7_column_23 (List.mem_cons_of_mem _ zw_9_5) ?_
      refine z_lload_n X dX7_column_26 rfl 1 rfl ?_
      refine z_lmul X dX7_column_27 ?_
      refine z_aload_n X dX7_column_28 rfl 2 rfl ?_
      refine z_iload_n X dX7_column_29 rfl 3 rfl ?_
      refine z_iload X dX7_column_30 0 rfl ?_
      obtain ⟨r13, h12, hf⟩ := zb1_sp hf
      refine gc_X7_88 (st := [.long ((2 : Int64) * x4)]) X (mtX7_isDot κ.2.1 κ.2.2.2.2.2.2.2.2.2.2.1 G  h12) rfl rfl (Nat.le_of_ble_eq_true rfl) (Nat.le_of_ble_eq_true rfl) (Nat.le_of_ble_eq_true rfl) dX7_column_32 ?_
      have hj : zV κ G 43 [(4, .int x3), (2, .long x4), (0, .ref (G.1 60)), (1, .int p1)] [.long (if r13 = 0 then (0 : Int64) else (1 : Int64)), .long ((2 : Int64) * x4)] M F := by
        refine z_ladd X dX7_column_43 ?_
        refine z_nmL hf (fun x15 hf => ?_)
        refine z_lstore_n (lv' := [(2, .long x15), (4, .int x3), (0, .ref (G.1 60)), (1, .int p1)]) X dX7_column_44 rfl hm (by decide) rfl ?_
        refine z_iinc (lv' := [(4, .int (x3 + (-1 : Int32))), (2, .long x15), (0, .ref (G.1 60)), (1, .int p1)]) (v := x3 + (-1 : Int32)) X dX7_column_45 (j := 1) rfl rfl hm (by decide) rfl ?_
        refine z_goto (tgt := 18) X dX7_column_48 (by decide) ?_
        have hq := hi7 _ (Option.some.inj hf).symm
        exact hq
      refine z_if_eq (tgt := 42) X dX7_column_35 (by decide) (fun h14 => ?_) (fun h14 => ?_)
      · try simp only [if_pos h14] at hj
        refine z_lconst (v := (0 : Int64)) X dX7_column_42 (by decide) ?_
        exact hj
      · try simp only [if_neg h14] at hj
        refine z_lconst (v := (1 : Int64)) X dX7_column_38 (by decide) ?_
        refine z_goto (tgt := 43) X dX7_column_39 (by decide) ?_
        exact hj
  · have hf := zt h20 hf
    refine z_ldc2 (v := (-9223372036854775808 : Int64)) X dX7_column_8 (List.mem_cons_of_mem _ zw_9_4) ?_
    exact z_lret X (zR_l hf Z) dX7_column_11
set_option maxHeartbeats 4000000 in
set_option maxRecDepth 100000 in
theorem mtX7_isCard (l : Launch) (D : va_G) (G : zG) {p0 : Int32} {M : zMem} {F : Int64} {ro : Int32} (hf : fX7_isCard p0 = some ro) : zCM l yX7_isCard wX7_isCard { frames := 1, cells := 0, slots := 0, locals := 22 } D G [.int p0] M F (some (.int ro)) M F := by
  refine zCM.ofV (own := RX7) (cc := cX7_isCard) (maxL := 1) (ret := (some .boolean)) (lv := [(0, .int p0)]) (by decide) rfl rfl (Nat.le_of_ble_eq_true rfl) rfl (fun κ X Z hm hκ1 hκ2 => ?_)
  subst hκ1 hκ2
  unfold fX7_isCard at hf
  refine z_iload_n X dX7_isCard_0 rfl 0 rfl ?_
  refine z_iconst (v := (0 : Int32)) X dX7_isCard_1 (by decide) ?_
  refine z_iconst (v := (3 : Int32)) X dX7_isCard_2 (by decide) ?_
  obtain ⟨r2, h1, hf⟩ := zb1_sp hf
  refine gc_X7_66 (st := []) X (mtX7_within κ.2.1 κ.2.2.2.2.2.2.2.2.2.2.1 G  h1) rfl rfl (Nat.le_of_ble_eq_true rfl) (Nat.le_of_ble_eq_true rfl) (Nat.le_of_ble_eq_true rfl) dX7_isCard_3 ?_
  obtain ⟨h3, hf⟩ := zc_sp hf
  exact z_zret X (z01_sp h3) (zR_i hf Z) dX7_isCard_6
set_option maxHeartbeats 4000000 in
set_option maxRecDepth 100000 in
theorem mtX7_cut (l : Launch) (D : va_G) (G : zG) {p0 : Int32} {p1 : Int32} {M : zMem} {F : Int64} {ro : Int32} (hf : fX7_cut p0 p1 = some ro) : zCM l yX7_cut wX7_cut { frames := 0, cells := 0, slots := 0, locals := 0 } D G [.int p0, .int p1] M F (some (.int ro)) M F := by
  refine zCM.ofV (own := RX7) (cc := cX7_cut) (maxL := 2) (ret := (some .int)) (lv := [(0, .int p0), (1, .int p1)]) (by decide) rfl rfl (Nat.le_of_ble_eq_true rfl) rfl (fun κ X Z hm hκ1 hκ2 => ?_)
  subst hκ1 hκ2
  unfold fX7_cut at hf
  refine z_iload_n X dX7_cut_0 rfl 0 rfl ?_
  by_cases h1 : p0 = (0 : Int32)
  · have hf := zt h1 hf
    refine z_tableIn (tgt := 28) X dX7_cut_1 (by rw [h1]; decide) (by rw [h1]; decide) (by rw [h1]; rfl) (by decide) ?_
    refine z_iload_n X dX7_cut_28 rfl 1 rfl ?_
    refine z_i2b X dX7_cut_29 ?_
    exact z_iret X (zR_i hf Z) dX7_cut_30
  · have hf := zf h1 hf
    by_cases h2 : p0 = (1 : Int32)
    · have hf := zt h2 hf
      refine z_tableIn (tgt := 31) X dX7_cut_1 (by rw [h2]; decide) (by rw [h2]; decide) (by rw [h2]; rfl) (by decide) ?_
      refine z_iload_n X dX7_cut_31 rfl 1 rfl ?_
      refine z_ldc (v := (65535 : Int32)) X dX7_cut_32 (List.mem_cons_of_mem _ zw_13_18) ?_
      refine z_iand X dX7_cut_34 ?_
      exact z_iret X (zR_i hf Z) dX7_cut_35
    · have hf := zf h2 hf
      by_cases h3 : p0 = (2 : Int32)
      · have hf := zt h3 hf
        refine z_tableIn (tgt := 36) X dX7_cut_1 (by rw [h3]; decide) (by rw [h3]; decide) (by rw [h3]; rfl) (by decide) ?_
        refine z_iload_n X dX7_cut_36 rfl 1 rfl ?_
        refine z_i2s X dX7_cut_37 ?_
        exact z_iret X (zR_i hf Z) dX7_cut_38
      · have hf := zf h3 hf
        refine z_tableOut (tgt := 39) X dX7_cut_1 (by have q0 := lv_neT h1 (a := 0) rfl; have q1 := lv_neT h2 (a := 1) rfl; have q2 := lv_neT h3 (a := 2) rfl; omega) (by decide) ?_
        refine z_iload_n X dX7_cut_39 rfl 1 rfl ?_
        have hj : zV κ G 48 [(0, .int p0), (1, .int p1)] [.int (if p1 = 0 then (0 : Int32) else (1 : Int32))] M F := by
          exact z_iret X (zR_i hf Z) dX7_cut_48
        refine z_if_ne (tgt := 47) X dX7_cut_40 (by decide) (fun h4 => ?_) (fun h4 => ?_)
        · try simp only [if_neg h4] at hj
          refine z_iconst (v := (1 : Int32)) X dX7_cut_47 (by decide) ?_
          exact hj
        · try simp only [if_pos h4] at hj
          refine z_iconst (v := (0 : Int32)) X dX7_cut_43 (by decide) ?_
          refine z_goto (tgt := 48) X dX7_cut_44 (by decide) ?_
          exact hj
set_option maxHeartbeats 4000000 in
set_option maxRecDepth 100000 in
theorem mtX7_row (l : Launch) (D : va_G) (G : zG) {p1 : Int32} {p2 : Int32} {M : zMem} {F : Int64} {ro : Int32} {Mo : zMem} (hf : fX7_row p1 p2 M = some (ro, Mo)) : zCM l yX7_row wX7_row { frames := 2, cells := 0, slots := 0, locals := 42 } D G [.ref (G.1 60), .int p1, .int p2] M F (some (.int ro)) Mo F := by
  refine zCM.ofV (own := RX7) (cc := cX7_row) (maxL := 6) (ret := (some .int)) (lv := [(0, .ref (G.1 60)), (1, .int p1), (2, .int p2)]) (by decide) rfl rfl (Nat.le_of_ble_eq_true rfl) rfl (fun κ X Z hm hκ1 hκ2 => ?_)
  subst hκ1 hκ2
  unfold fX7_row at hf
  refine z_iload_n X dX7_row_0 rfl 1 rfl ?_
  obtain ⟨r2, h1, hf⟩ := zb1_sp hf
  refine gc_X7_74 (st := []) X (mtX7_isRow κ.2.1 κ.2.2.2.2.2.2.2.2.2.2.1 G  h1) rfl rfl (Nat.le_of_ble_eq_true rfl) (Nat.le_of_ble_eq_true rfl) (Nat.le_of_ble_eq_true rfl) dX7_row_1 ?_
  refine z_if_eq (tgt := 14) X dX7_row_4 (by decide) (fun h47 => ?_) (fun h47 => ?_)
  · have hf := zt h47 hf
    refine z_aload_n X dX7_row_14 rfl 0 rfl ?_
    refine z_iconst (v := (-1 : Int32)) X dX7_row_15 (by decide) ?_
    obtain ⟨r4, M5, h3, hf⟩ := zb2_sp hf
    refine gc_X7_96 (st := []) X (mtX7_refused κ.2.1 κ.2.2.2.2.2.2.2.2.2.2.1 G  h3) rfl rfl (Nat.le_of_ble_eq_true rfl) (Nat.le_of_ble_eq_true rfl) (Nat.le_of_ble_eq_true rfl) dX7_row_16 ?_
    exact z_iret X (zR_iM hf Z) dX7_row_19
  · have hf := zf h47 hf
    refine z_iload_n X dX7_row_7 rfl 2 rfl ?_
    obtain ⟨r7, h6, hf⟩ := zb1_sp hf
    refine gc_X7_93 (st := []) X (mtX7_isCard κ.2.1 κ.2.2.2.2.2.2.2.2.2.2.1 G  h6) rfl rfl (Nat.le_of_ble_eq_true rfl) (Nat.le_of_ble_eq_true rfl) (Nat.le_of_ble_eq_true rfl) dX7_row_8 ?_
    refine z_if_ne (tgt := 20) X dX7_row_11 (by decide) (fun h46 => ?_) (fun h46 => ?_)
    · have hf := zf h46 hf
      refine z_aload_n X dX7_row_20 rfl 0 rfl ?_
      refine gf_X7_17 X dX7_row_21 ?_
      refine z_iload_n X dX7_row_24 rfl 2 rfl ?_
      obtain ⟨h8, hf⟩ := zc_sp hf
      refine z_iald X zc_62 zl_62 (zin_sp h8) dX7_row_25 ?_
      refine z_bipush (v := (-9 : Int32)) X dX7_row_26 (by decide) ?_
      refine z_icmp_ne (tgt := 37) X dX7_row_28 (by decide) (fun h42 => ?_) (fun h42 => ?_)
      · have hf := zf h42 hf
        refine z_iconst (v := (0 : Int32)) X dX7_row_37 (by decide) ?_
        refine z_istore_n (lv' := [(3, .int (0 : Int32)), (0, .ref (G.1 60)), (1, .int p1), (2, .int p2)]) X dX7_row_38 rfl hm (by decide) rfl ?_
        refine z_iconst (v := (0 : Int32)) X dX7_row_39 (by decide) ?_
        refine z_istore (lv' := [(4, .int (0 : Int32)), (3, .int (0 : Int32)), (0, .ref (G.1 60)), (1, .int p1), (2, .int p2)]) X dX7_row_40 hm (by decide) rfl ?_
        obtain ⟨b17, hb18, hf⟩ := zb1_sp hf
        have hX12 : ∀ t, t = b17 → zu3 (fun (x31 : Int32) (x32 : Int32) (M33 : zMem) => zV κ G 117 [(4, .int x31), (3, .int x32), (0, .ref (G.1 60)), (1, .int p1), (2, .int p2)] [] M33 F) t := by
          intro t ht
          subst ht
          obtain ⟨x31, x32, M33⟩ := t
          show zV κ G 117 [(4, .int x31), (3, .int x32), (0, .ref (G.1 60)), (1, .int p1), (2, .int p2)] [] M33 F
          refine z_aload_n X dX7_row_117 rfl 2 rfl ?_
          refine z_iconst (v := (0 : Int32)) X dX7_row_118 (by decide) ?_
          refine pf_X7_81 X dX7_row_119 ?_
          refine z_nmM hf (fun M34 hf => ?_)
          refine z_aload_n X dX7_row_122 rfl 2 rfl ?_
          refine z_iload_n X dX7_row_123 rfl 1 rfl ?_
          obtain ⟨r36, M37, h35, hf⟩ := zb2_sp hf
          refine gc_X7_96 (st := []) X (mtX7_refused κ.2.1 κ.2.2.2.2.2.2.2.2.2.2.1 G  h35) rfl rfl (Nat.le_of_ble_eq_true rfl) (Nat.le_of_ble_eq_true rfl) (Nat.le_of_ble_eq_true rfl) dX7_row_124 ?_
          exact z_iret X (zR_iM hf Z) dX7_row_127
        refine zlp_walk (P := zu3 (fun (x9 : Int32) (x10 : Int32) (M11 : zMem) => zV κ G 42 [(4, .int x9), (3, .int x10), (0, .ref (G.1 60)), (1, .int p1), (2, .int p2)] [] M11 F)) (fun a38 w16 hf hi14 hx15 => ?_) _ _ hb18
        obtain ⟨x9, x10, M11⟩ := a38
        show zV κ G 42 [(4, .int x9), (3, .int x10), (0, .ref (G.1 60)), (1, .int p1), (2, .int p2)] [] M11 F
        replace hf : fX7_row_L42 p1 p2 x9 x10 M11 = some w16 := hf
        unfold fX7_row_L42 at hf
        refine z_iload X dX7_row_42 0 rfl ?_
        refine z_aload_n X dX7_row_44 rfl 2 rfl ?_
        refine gf_X7_7 X dX7_row_45 ?_
        refine z_icmp_ge (tgt := 117) X dX7_row_48 (by decide) (fun h30 => ?_) (fun h30 => ?_)
        · have hf := zt h30 hf
          have hq := hX12 _ (hx15 _ (Option.some.inj hf).symm)
          exact hq
        · have hf := zf h30 hf
          refine z_iload X dX7_row_51 0 rfl ?_
          refine z_aload_n X dX7_row_53 rfl 2 rfl ?_
          refine gf_X7_21 X dX7_row_54 ?_
          refine z_iload_n X dX7_row_57 rfl 4 rfl ?_
          obtain ⟨h19, hf⟩ := zc_sp hf
          refine z_iald X zc_63 zl_63 (zin_sp h19) dX7_row_58 ?_
          obtain ⟨k21, k21e, hf⟩ := zj_sp hf
          have hj22 : ∀ (x20 : Int32), k21 x20 = some w16 → zV κ G 82 [(4, .int x9), (3, .int x10), (0, .ref (G.1 60)), (1, .int p1), (2, .int p2)] [.int x20] M11 F := by
            intro x20 hf
            rw [k21e] at hf
            refine z_istore (lv' := [(5, .int x20), (4, .int x9), (3, .int x10), (0, .ref (G.1 60)), (1, .int p1), (2, .int p2)]) X dX7_row_82 hm (by decide) rfl ?_
            refine z_aload_n X dX7_row_84 rfl 3 rfl ?_
            refine gf_X7_13 X dX7_row_85 ?_
            refine z_bipush (v := (32 : Int32)) X dX7_row_88 (by decide) ?_
            refine z_iload X dX7_row_90 1 rfl ?_
            refine z_imul X dX7_row_92 ?_
            refine z_iload_n X dX7_row_93 rfl 4 rfl ?_
            refine z_iadd X dX7_row_94 ?_
            refine z_iload X dX7_row_95 0 rfl ?_
            obtain ⟨h26, hf⟩ := zc_sp hf
            refine z_zast X zc_61 zl_61 (zin_sp h26) dX7_row_97 ?_
            refine z_nmM hf (fun M27 hf => ?_)
            refine z_iload_n X dX7_row_98 rfl 2 rfl ?_
            refine z_iload X dX7_row_99 0 rfl ?_
            have hj : zV κ G 109 [(5, .int x20), (4, .int x9), (3, .int x10), (0, .ref (G.1 60)), (1, .int p1), (2, .int p2)] [.int (if x20 = 0 then (0 : Int32) else (1 : Int32)), .int x10] M27 F := by
              refine z_iadd X dX7_row_109 ?_
              refine z_nmI hf (fun x29 hf => ?_)
              refine z_istore_n (lv' := [(3, .int x29), (5, .int x20), (4, .int x9), (0, .ref (G.1 60)), (1, .int p1), (2, .int p2)]) X dX7_row_110 rfl hm (by decide) rfl ?_
              refine z_iinc (lv' := [(4, .int (x9 + (1 : Int32))), (3, .int x29), (5, .int x20), (0, .ref (G.1 60)), (1, .int p1), (2, .int p2)]) (v := x9 + (1 : Int32)) X dX7_row_111 (j := 2) rfl rfl hm (by decide) rfl ?_
              refine z_goto (tgt := 42) X dX7_row_114 (by decide) ?_
              refine z_sub [0, 1, 3, 4, 5] rfl ?_
              have hq := hi14 _ (Option.some.inj hf).symm
              exact hq
            refine z_if_eq (tgt := 108) X dX7_row_101 (by decide) (fun h28 => ?_) (fun h28 => ?_)
            · try simp only [if_pos h28] at hj
              refine z_iconst (v := (0 : Int32)) X dX7_row_108 (by decide) ?_
              exact hj
            · try simp only [if_neg h28] at hj
              refine z_iconst (v := (1 : Int32)) X dX7_row_104 (by decide) ?_
              refine z_goto (tgt := 109) X dX7_row_105 (by decide) ?_
              exact hj
          clear k21e
          refine z_icmp_ge (tgt := 81) X dX7_row_59 (by decide) (fun h25 => ?_) (fun h25 => ?_)
          · have hf := zt h25 hf
            refine z_iconst (v := (0 : Int32)) X dX7_row_81 (by decide) ?_
            exact hj22 (0 : Int32) hf
          · have hf := zf h25 hf
            refine z_aload_n X dX7_row_62 rfl 2 rfl ?_
            refine gf_X7_24 X dX7_row_63 ?_
            refine z_bipush (v := (32 : Int32)) X dX7_row_66 (by decide) ?_
            refine z_iload_n X dX7_row_68 rfl 4 rfl ?_
            refine z_imul X dX7_row_69 ?_
            refine z_iload X dX7_row_70 0 rfl ?_
            refine z_iadd X dX7_row_72 ?_
            obtain ⟨h23, hf⟩ := zc_sp hf
            refine z_iald X zc_64 zl_64 (zin_sp h23) dX7_row_73 ?_
            refine z_if_eq (tgt := 81) X dX7_row_74 (by decide) (fun h24 => ?_) (fun h24 => ?_)
            · have hf := zt h24 hf
              refine z_iconst (v := (0 : Int32)) X dX7_row_81 (by decide) ?_
              exact hj22 (0 : Int32) hf
            · have hf := zf h24 hf
              refine z_iconst (v := (1 : Int32)) X dX7_row_77 (by decide) ?_
              refine z_goto (tgt := 82) X dX7_row_78 (by decide) ?_
              exact hj22 (1 : Int32) hf
      · have hf := zt h42 hf
        refine z_aload_n X dX7_row_31 rfl 0 rfl ?_
        refine z_iconst (v := (1 : Int32)) X dX7_row_32 (by decide) ?_
        obtain ⟨r40, M41, h39, hf⟩ := zb2_sp hf
        refine gc_X7_100 (st := []) X (mtX7_fails κ.2.1 κ.2.2.2.2.2.2.2.2.2.2.1 G  h39) rfl rfl (Nat.le_of_ble_eq_true rfl) (Nat.le_of_ble_eq_true rfl) (Nat.le_of_ble_eq_true rfl) dX7_row_33 ?_
        exact z_iret X (zR_iM hf Z) dX7_row_36
    · have hf := zt h46 hf
      refine z_aload_n X dX7_row_14 rfl 0 rfl ?_
      refine z_iconst (v := (-1 : Int32)) X dX7_row_15 (by decide) ?_
      obtain ⟨r44, M45, h43, hf⟩ := zb2_sp hf
      refine gc_X7_96 (st := []) X (mtX7_refused κ.2.1 κ.2.2.2.2.2.2.2.2.2.2.1 G  h43) rfl rfl (Nat.le_of_ble_eq_true rfl) (Nat.le_of_ble_eq_true rfl) (Nat.le_of_ble_eq_true rfl) dX7_row_16 ?_
      exact z_iret X (zR_iM hf Z) dX7_row_19
