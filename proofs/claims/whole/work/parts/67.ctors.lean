/-! the constructors -/
set_option maxRecDepth 100000 in
theorem ctX2_0 (l : Launch) (D : va_G) (C : Nat → ClassId) : bCM l yX2_init (Cond.code yX2_init cX2_init 1 none :: wsL_law) 1 12 1 32 D C (.inr (1, [.null, .int 0, .int 0])) 14 [14, 18] := by
  refine bCM.ofV (own := RX2) (cc := cX2_init) (maxL := 1) (by decide) rfl rfl rfl (Nat.le_of_ble_eq_true rfl) (fun κ h0 X I Z hm hκ1 hκ2 => ?_)
  subst hκ1 hκ2
  refine b_aload_n X dX2_init_0 rfl 0 rfl ?_
  refine b_obj X (List.mem_cons_of_mem _ (zr_4 _ (List.mem_of_getElem? (i := 6) rfl))) (List.mem_cons_of_mem _ (zr_1 _ (List.mem_of_getElem? (i := 10) rfl))) (List.mem_cons_of_mem _ (zr_1 _ (List.mem_of_getElem? (i := 11) rfl))) (Nat.le_of_ble_eq_true rfl) (Nat.le_of_ble_eq_true rfl) dX2_init_1 ?_
  refine b_aload_n X dX2_init_4 rfl 0 rfl ?_
  refine b_bipush (v := 32) X dX2_init_5 (by decide) ?_
  refine b_newI (N := 32) (kc' := 1) (ks' := 32) X (List.mem_cons_of_mem _ (zr_2 _ (List.mem_of_getElem? (i := 6) rfl))) (by decide) (by decide) (Nat.le_of_ble_eq_true rfl) rfl rfl (Nat.le_of_ble_eq_true rfl) (Nat.le_of_ble_eq_true rfl) dX2_init_7 (fun q1 => ?_)
  show bV κ 1 32 9 [(0, .ref h0)] [.ref q1, .ref h0] ([(h0, .inr (1, [.null, .int 0, .int 0])), (q1, .inl (C 0, 32, .inl (fun _ => 0)))])
  refine b_putR (fs' := [.ref q1, .int 0, .int 0]) (ty := .array .int) X I (rfl : vwCl[1]? = some (RX2, TX2, 3)) (fun w h => List.mem_cons_of_mem _ (inlX2 w h)) tyX2 tyX2_ok nmX2 0 (by decide) (List.mem_cons_of_mem _ (zr_4 _ (List.mem_of_getElem? (i := 7) rfl))) rfl rfl (by decide +kernel) rfl rfl (Nat.le_of_ble_eq_true rfl) rfl dX2_init_9 ?_
  refine b_aload_n X dX2_init_12 rfl 0 rfl ?_
  refine b_iconst (v := -1) X dX2_init_13 (by decide) ?_
  refine b_putI (fs' := [.ref q1, .int (-1), .int 0]) X (rfl : vwCl[1]? = some (RX2, TX2, 3)) (fun w h => List.mem_cons_of_mem _ (inlX2 w h)) tyX2 tyX2_ok nmX2 1 (by decide) (List.mem_cons_of_mem _ (zr_4 _ (List.mem_of_getElem? (i := 8) rfl))) rfl (by decide +kernel) (Nat.le_of_ble_eq_true rfl) rfl dX2_init_14 ?_
  refine b_aload_n X dX2_init_17 rfl 0 rfl ?_
  refine b_iconst (v := 0) X dX2_init_18 (by decide) ?_
  refine b_putI (fs' := [.ref q1, .int (-1), .int 0]) X (rfl : vwCl[1]? = some (RX2, TX2, 3)) (fun w h => List.mem_cons_of_mem _ (inlX2 w h)) tyX2 tyX2_ok nmX2 2 (by decide) (List.mem_cons_of_mem _ (zr_4 _ (List.mem_of_getElem? (i := 9) rfl))) rfl (by decide +kernel) (Nat.le_of_ble_eq_true rfl) rfl dX2_init_19 ?_
  exact b_vret X I Z (fun c => if c = 14 then h0 else if c = 18 then q1 else 0) rfl rfl dX2_init_22
set_option maxRecDepth 100000 in
theorem ctX2_1 (l : Launch) (D : va_G) (C : Nat → ClassId) : bCM l yX2_init (Cond.code yX2_init cX2_init 1 none :: wsL_law) 1 12 1 32 D C (.inr (1, [.null, .int 0, .int 0])) 15 [15, 19] := by
  refine bCM.ofV (own := RX2) (cc := cX2_init) (maxL := 1) (by decide) rfl rfl rfl (Nat.le_of_ble_eq_true rfl) (fun κ h0 X I Z hm hκ1 hκ2 => ?_)
  subst hκ1 hκ2
  refine b_aload_n X dX2_init_0 rfl 0 rfl ?_
  refine b_obj X (List.mem_cons_of_mem _ (zr_4 _ (List.mem_of_getElem? (i := 6) rfl))) (List.mem_cons_of_mem _ (zr_1 _ (List.mem_of_getElem? (i := 10) rfl))) (List.mem_cons_of_mem _ (zr_1 _ (List.mem_of_getElem? (i := 11) rfl))) (Nat.le_of_ble_eq_true rfl) (Nat.le_of_ble_eq_true rfl) dX2_init_1 ?_
  refine b_aload_n X dX2_init_4 rfl 0 rfl ?_
  refine b_bipush (v := 32) X dX2_init_5 (by decide) ?_
  refine b_newI (N := 32) (kc' := 1) (ks' := 32) X (List.mem_cons_of_mem _ (zr_2 _ (List.mem_of_getElem? (i := 6) rfl))) (by decide) (by decide) (Nat.le_of_ble_eq_true rfl) rfl rfl (Nat.le_of_ble_eq_true rfl) (Nat.le_of_ble_eq_true rfl) dX2_init_7 (fun q1 => ?_)
  show bV κ 1 32 9 [(0, .ref h0)] [.ref q1, .ref h0] ([(h0, .inr (1, [.null, .int 0, .int 0])), (q1, .inl (C 0, 32, .inl (fun _ => 0)))])
  refine b_putR (fs' := [.ref q1, .int 0, .int 0]) (ty := .array .int) X I (rfl : vwCl[1]? = some (RX2, TX2, 3)) (fun w h => List.mem_cons_of_mem _ (inlX2 w h)) tyX2 tyX2_ok nmX2 0 (by decide) (List.mem_cons_of_mem _ (zr_4 _ (List.mem_of_getElem? (i := 7) rfl))) rfl rfl (by decide +kernel) rfl rfl (Nat.le_of_ble_eq_true rfl) rfl dX2_init_9 ?_
  refine b_aload_n X dX2_init_12 rfl 0 rfl ?_
  refine b_iconst (v := -1) X dX2_init_13 (by decide) ?_
  refine b_putI (fs' := [.ref q1, .int (-1), .int 0]) X (rfl : vwCl[1]? = some (RX2, TX2, 3)) (fun w h => List.mem_cons_of_mem _ (inlX2 w h)) tyX2 tyX2_ok nmX2 1 (by decide) (List.mem_cons_of_mem _ (zr_4 _ (List.mem_of_getElem? (i := 8) rfl))) rfl (by decide +kernel) (Nat.le_of_ble_eq_true rfl) rfl dX2_init_14 ?_
  refine b_aload_n X dX2_init_17 rfl 0 rfl ?_
  refine b_iconst (v := 0) X dX2_init_18 (by decide) ?_
  refine b_putI (fs' := [.ref q1, .int (-1), .int 0]) X (rfl : vwCl[1]? = some (RX2, TX2, 3)) (fun w h => List.mem_cons_of_mem _ (inlX2 w h)) tyX2 tyX2_ok nmX2 2 (by decide) (List.mem_cons_of_mem _ (zr_4 _ (List.mem_of_getElem? (i := 9) rfl))) rfl (by decide +kernel) (Nat.le_of_ble_eq_true rfl) rfl dX2_init_19 ?_
  exact b_vret X I Z (fun c => if c = 15 then h0 else if c = 19 then q1 else 0) rfl rfl dX2_init_22
set_option maxRecDepth 100000 in
theorem ctX2_2 (l : Launch) (D : va_G) (C : Nat → ClassId) : bCM l yX2_init (Cond.code yX2_init cX2_init 1 none :: wsL_law) 1 12 1 32 D C (.inr (1, [.null, .int 0, .int 0])) 16 [16, 20] := by
  refine bCM.ofV (own := RX2) (cc := cX2_init) (maxL := 1) (by decide) rfl rfl rfl (Nat.le_of_ble_eq_true rfl) (fun κ h0 X I Z hm hκ1 hκ2 => ?_)
  subst hκ1 hκ2
  refine b_aload_n X dX2_init_0 rfl 0 rfl ?_
  refine b_obj X (List.mem_cons_of_mem _ (zr_4 _ (List.mem_of_getElem? (i := 6) rfl))) (List.mem_cons_of_mem _ (zr_1 _ (List.mem_of_getElem? (i := 10) rfl))) (List.mem_cons_of_mem _ (zr_1 _ (List.mem_of_getElem? (i := 11) rfl))) (Nat.le_of_ble_eq_true rfl) (Nat.le_of_ble_eq_true rfl) dX2_init_1 ?_
  refine b_aload_n X dX2_init_4 rfl 0 rfl ?_
  refine b_bipush (v := 32) X dX2_init_5 (by decide) ?_
  refine b_newI (N := 32) (kc' := 1) (ks' := 32) X (List.mem_cons_of_mem _ (zr_2 _ (List.mem_of_getElem? (i := 6) rfl))) (by decide) (by decide) (Nat.le_of_ble_eq_true rfl) rfl rfl (Nat.le_of_ble_eq_true rfl) (Nat.le_of_ble_eq_true rfl) dX2_init_7 (fun q1 => ?_)
  show bV κ 1 32 9 [(0, .ref h0)] [.ref q1, .ref h0] ([(h0, .inr (1, [.null, .int 0, .int 0])), (q1, .inl (C 0, 32, .inl (fun _ => 0)))])
  refine b_putR (fs' := [.ref q1, .int 0, .int 0]) (ty := .array .int) X I (rfl : vwCl[1]? = some (RX2, TX2, 3)) (fun w h => List.mem_cons_of_mem _ (inlX2 w h)) tyX2 tyX2_ok nmX2 0 (by decide) (List.mem_cons_of_mem _ (zr_4 _ (List.mem_of_getElem? (i := 7) rfl))) rfl rfl (by decide +kernel) rfl rfl (Nat.le_of_ble_eq_true rfl) rfl dX2_init_9 ?_
  refine b_aload_n X dX2_init_12 rfl 0 rfl ?_
  refine b_iconst (v := -1) X dX2_init_13 (by decide) ?_
  refine b_putI (fs' := [.ref q1, .int (-1), .int 0]) X (rfl : vwCl[1]? = some (RX2, TX2, 3)) (fun w h => List.mem_cons_of_mem _ (inlX2 w h)) tyX2 tyX2_ok nmX2 1 (by decide) (List.mem_cons_of_mem _ (zr_4 _ (List.mem_of_getElem? (i := 8) rfl))) rfl (by decide +kernel) (Nat.le_of_ble_eq_true rfl) rfl dX2_init_14 ?_
  refine b_aload_n X dX2_init_17 rfl 0 rfl ?_
  refine b_iconst (v := 0) X dX2_init_18 (by decide) ?_
  refine b_putI (fs' := [.ref q1, .int (-1), .int 0]) X (rfl : vwCl[1]? = some (RX2, TX2, 3)) (fun w h => List.mem_cons_of_mem _ (inlX2 w h)) tyX2 tyX2_ok nmX2 2 (by decide) (List.mem_cons_of_mem _ (zr_4 _ (List.mem_of_getElem? (i := 9) rfl))) rfl (by decide +kernel) (Nat.le_of_ble_eq_true rfl) rfl dX2_init_19 ?_
  exact b_vret X I Z (fun c => if c = 16 then h0 else if c = 20 then q1 else 0) rfl rfl dX2_init_22
set_option maxRecDepth 100000 in
theorem ctX2_3 (l : Launch) (D : va_G) (C : Nat → ClassId) : bCM l yX2_init (Cond.code yX2_init cX2_init 1 none :: wsL_law) 1 12 1 32 D C (.inr (1, [.null, .int 0, .int 0])) 17 [17, 21] := by
  refine bCM.ofV (own := RX2) (cc := cX2_init) (maxL := 1) (by decide) rfl rfl rfl (Nat.le_of_ble_eq_true rfl) (fun κ h0 X I Z hm hκ1 hκ2 => ?_)
  subst hκ1 hκ2
  refine b_aload_n X dX2_init_0 rfl 0 rfl ?_
  refine b_obj X (List.mem_cons_of_mem _ (zr_4 _ (List.mem_of_getElem? (i := 6) rfl))) (List.mem_cons_of_mem _ (zr_1 _ (List.mem_of_getElem? (i := 10) rfl))) (List.mem_cons_of_mem _ (zr_1 _ (List.mem_of_getElem? (i := 11) rfl))) (Nat.le_of_ble_eq_true rfl) (Nat.le_of_ble_eq_true rfl) dX2_init_1 ?_
  refine b_aload_n X dX2_init_4 rfl 0 rfl ?_
  refine b_bipush (v := 32) X dX2_init_5 (by decide) ?_
  refine b_newI (N := 32) (kc' := 1) (ks' := 32) X (List.mem_cons_of_mem _ (zr_2 _ (List.mem_of_getElem? (i := 6) rfl))) (by decide) (by decide) (Nat.le_of_ble_eq_true rfl) rfl rfl (Nat.le_of_ble_eq_true rfl) (Nat.le_of_ble_eq_true rfl) dX2_init_7 (fun q1 => ?_)
  show bV κ 1 32 9 [(0, .ref h0)] [.ref q1, .ref h0] ([(h0, .inr (1, [.null, .int 0, .int 0])), (q1, .inl (C 0, 32, .inl (fun _ => 0)))])
  refine b_putR (fs' := [.ref q1, .int 0, .int 0]) (ty := .array .int) X I (rfl : vwCl[1]? = some (RX2, TX2, 3)) (fun w h => List.mem_cons_of_mem _ (inlX2 w h)) tyX2 tyX2_ok nmX2 0 (by decide) (List.mem_cons_of_mem _ (zr_4 _ (List.mem_of_getElem? (i := 7) rfl))) rfl rfl (by decide +kernel) rfl rfl (Nat.le_of_ble_eq_true rfl) rfl dX2_init_9 ?_
  refine b_aload_n X dX2_init_12 rfl 0 rfl ?_
  refine b_iconst (v := -1) X dX2_init_13 (by decide) ?_
  refine b_putI (fs' := [.ref q1, .int (-1), .int 0]) X (rfl : vwCl[1]? = some (RX2, TX2, 3)) (fun w h => List.mem_cons_of_mem _ (inlX2 w h)) tyX2 tyX2_ok nmX2 1 (by decide) (List.mem_cons_of_mem _ (zr_4 _ (List.mem_of_getElem? (i := 8) rfl))) rfl (by decide +kernel) (Nat.le_of_ble_eq_true rfl) rfl dX2_init_14 ?_
  refine b_aload_n X dX2_init_17 rfl 0 rfl ?_
  refine b_iconst (v := 0) X dX2_init_18 (by decide) ?_
  refine b_putI (fs' := [.ref q1, .int (-1), .int 0]) X (rfl : vwCl[1]? = some (RX2, TX2, 3)) (fun w h => List.mem_cons_of_mem _ (inlX2 w h)) tyX2 tyX2_ok nmX2 2 (by decide) (List.mem_cons_of_mem _ (zr_4 _ (List.mem_of_getElem? (i := 9) rfl))) rfl (by decide +kernel) (Nat.le_of_ble_eq_true rfl) rfl dX2_init_19 ?_
  exact b_vret X I Z (fun c => if c = 17 then h0 else if c = 21 then q1 else 0) rfl rfl dX2_init_22
set_option maxRecDepth 100000 in
theorem ctX3 (l : Launch) (D : va_G) (C : Nat → ClassId) : bCM l yX3_init (Cond.code yX3_init cX3_init 1 none :: wsL_law) 1 12 3 152 D C (.inr (2, [.null, .null, .null, .int 0, .int 0, .int 0])) 22 [22, 23, 24, 25] := by
  refine bCM.ofV (own := RX3) (cc := cX3_init) (maxL := 1) (by decide) rfl rfl rfl (Nat.le_of_ble_eq_true rfl) (fun κ h0 X I Z hm hκ1 hκ2 => ?_)
  subst hκ1 hκ2
  refine b_aload_n X dX3_init_0 rfl 0 rfl ?_
  refine b_obj X (List.mem_cons_of_mem _ (zr_2 _ (List.mem_of_getElem? (i := 23) rfl))) (List.mem_cons_of_mem _ (zr_1 _ (List.mem_of_getElem? (i := 10) rfl))) (List.mem_cons_of_mem _ (zr_1 _ (List.mem_of_getElem? (i := 11) rfl))) (Nat.le_of_ble_eq_true rfl) (Nat.le_of_ble_eq_true rfl) dX3_init_1 ?_
  refine b_aload_n X dX3_init_4 rfl 0 rfl ?_
  refine b_bipush (v := 86) X dX3_init_5 (by decide) ?_
  refine b_newI (N := 86) (kc' := 1) (ks' := 86) X (List.mem_cons_of_mem _ (zr_2 _ (List.mem_of_getElem? (i := 6) rfl))) (by decide) (by decide) (Nat.le_of_ble_eq_true rfl) rfl rfl (Nat.le_of_ble_eq_true rfl) (Nat.le_of_ble_eq_true rfl) dX3_init_7 (fun q1 => ?_)
  show bV κ 1 86 9 [(0, .ref h0)] [.ref q1, .ref h0] ([(h0, .inr (2, [.null, .null, .null, .int 0, .int 0, .int 0])), (q1, .inl (C 0, 86, .inl (fun _ => 0)))])
  refine b_putR (fs' := [.ref q1, .null, .null, .int 0, .int 0, .int 0]) (ty := .array .int) X I (rfl : vwCl[2]? = some (RX3, TX3, 6)) (fun w h => List.mem_cons_of_mem _ (inlX3 w h)) tyX3 tyX3_ok nmX3 0 (by decide) (List.mem_cons_of_mem _ (zr_3 _ (List.mem_of_getElem? (i := 0) rfl))) rfl rfl (by decide +kernel) rfl rfl (Nat.le_of_ble_eq_true rfl) rfl dX3_init_9 ?_
  refine b_aload_n X dX3_init_12 rfl 0 rfl ?_
  refine b_bipush (v := 33) X dX3_init_13 (by decide) ?_
  refine b_newI (N := 33) (kc' := 2) (ks' := 119) X (List.mem_cons_of_mem _ (zr_2 _ (List.mem_of_getElem? (i := 6) rfl))) (by decide) (by decide) (Nat.le_of_ble_eq_true rfl) rfl rfl (Nat.le_of_ble_eq_true rfl) (Nat.le_of_ble_eq_true rfl) dX3_init_15 (fun q2 => ?_)
  show bV κ 2 119 17 [(0, .ref h0)] [.ref q2, .ref h0] ([(h0, .inr (2, [.ref q1, .null, .null, .int 0, .int 0, .int 0])), (q1, .inl (C 0, 86, .inl (fun _ => 0))), (q2, .inl (C 0, 33, .inl (fun _ => 0)))])
  refine b_putR (fs' := [.ref q1, .ref q2, .null, .int 0, .int 0, .int 0]) (ty := .array .int) X I (rfl : vwCl[2]? = some (RX3, TX3, 6)) (fun w h => List.mem_cons_of_mem _ (inlX3 w h)) tyX3 tyX3_ok nmX3 1 (by decide) (List.mem_cons_of_mem _ (zr_3 _ (List.mem_of_getElem? (i := 1) rfl))) rfl rfl (by decide +kernel) rfl rfl (Nat.le_of_ble_eq_true rfl) rfl dX3_init_17 ?_
  refine b_aload_n X dX3_init_20 rfl 0 rfl ?_
  refine b_bipush (v := 33) X dX3_init_21 (by decide) ?_
  refine b_newZ (N := 33) (kc' := 3) (ks' := 152) X (List.mem_cons_of_mem _ (zr_3 _ (List.mem_of_getElem? (i := 2) rfl))) (by decide) (by decide) (Nat.le_of_ble_eq_true rfl) rfl rfl (Nat.le_of_ble_eq_true rfl) (Nat.le_of_ble_eq_true rfl) dX3_init_23 (fun q3 => ?_)
  show bV κ 3 152 25 [(0, .ref h0)] [.ref q3, .ref h0] ([(h0, .inr (2, [.ref q1, .ref q2, .null, .int 0, .int 0, .int 0])), (q1, .inl (C 0, 86, .inl (fun _ => 0))), (q2, .inl (C 0, 33, .inl (fun _ => 0))), (q3, .inl (C 1, 33, .inl (fun _ => 0)))])
  refine b_putR (fs' := [.ref q1, .ref q2, .ref q3, .int 0, .int 0, .int 0]) (ty := .array .boolean) X I (rfl : vwCl[2]? = some (RX3, TX3, 6)) (fun w h => List.mem_cons_of_mem _ (inlX3 w h)) tyX3 tyX3_ok nmX3 2 (by decide) (List.mem_cons_of_mem _ (zr_3 _ (List.mem_of_getElem? (i := 3) rfl))) rfl rfl (by decide +kernel) rfl rfl (Nat.le_of_ble_eq_true rfl) rfl dX3_init_25 ?_
  refine b_aload_n X dX3_init_28 rfl 0 rfl ?_
  refine b_iconst (v := 0) X dX3_init_29 (by decide) ?_
  refine b_putI (fs' := [.ref q1, .ref q2, .ref q3, .int 0, .int 0, .int 0]) X (rfl : vwCl[2]? = some (RX3, TX3, 6)) (fun w h => List.mem_cons_of_mem _ (inlX3 w h)) tyX3 tyX3_ok nmX3 3 (by decide) (List.mem_cons_of_mem _ (zr_3 _ (List.mem_of_getElem? (i := 4) rfl))) rfl (by decide +kernel) (Nat.le_of_ble_eq_true rfl) rfl dX3_init_30 ?_
  refine b_aload_n X dX3_init_33 rfl 0 rfl ?_
  refine b_iconst (v := 0) X dX3_init_34 (by decide) ?_
  refine b_putI (fs' := [.ref q1, .ref q2, .ref q3, .int 0, .int 0, .int 0]) X (rfl : vwCl[2]? = some (RX3, TX3, 6)) (fun w h => List.mem_cons_of_mem _ (inlX3 w h)) tyX3 tyX3_ok nmX3 4 (by decide) (List.mem_cons_of_mem _ (zr_3 _ (List.mem_of_getElem? (i := 5) rfl))) rfl (by decide +kernel) (Nat.le_of_ble_eq_true rfl) rfl dX3_init_35 ?_
  refine b_aload_n X dX3_init_38 rfl 0 rfl ?_
  refine b_iconst (v := 0) X dX3_init_39 (by decide) ?_
  refine b_putI (fs' := [.ref q1, .ref q2, .ref q3, .int 0, .int 0, .int 0]) X (rfl : vwCl[2]? = some (RX3, TX3, 6)) (fun w h => List.mem_cons_of_mem _ (inlX3 w h)) tyX3 tyX3_ok nmX3 5 (by decide) (List.mem_cons_of_mem _ (zr_3 _ (List.mem_of_getElem? (i := 6) rfl))) rfl (by decide +kernel) (Nat.le_of_ble_eq_true rfl) rfl dX3_init_40 ?_
  exact b_vret X I Z (fun c => if c = 22 then h0 else if c = 23 then q1 else if c = 24 then q2 else if c = 25 then q3 else 0) rfl rfl dX3_init_43
set_option maxRecDepth 100000 in
theorem ctX5 (l : Launch) (D : va_G) (C : Nat → ClassId) : bCM l yX5_init (Cond.code yX5_init cX5_init 1 none :: wsL_law) 1 12 5 1920 D C (.inr (4, [.null, .null, .null, .null, .null, .int 0, .int 0])) 26 [26, 27, 28, 29, 30, 31] := by
  refine bCM.ofV (own := RX5) (cc := cX5_init) (maxL := 1) (by decide) rfl rfl rfl (Nat.le_of_ble_eq_true rfl) (fun κ h0 X I Z hm hκ1 hκ2 => ?_)
  subst hκ1 hκ2
  refine b_aload_n X dX5_init_0 rfl 0 rfl ?_
  refine b_obj X (List.mem_cons_of_mem _ (zr_3 _ (List.mem_of_getElem? (i := 9) rfl))) (List.mem_cons_of_mem _ (zr_1 _ (List.mem_of_getElem? (i := 10) rfl))) (List.mem_cons_of_mem _ (zr_1 _ (List.mem_of_getElem? (i := 11) rfl))) (Nat.le_of_ble_eq_true rfl) (Nat.le_of_ble_eq_true rfl) dX5_init_1 ?_
  refine b_aload_n X dX5_init_4 rfl 0 rfl ?_
  refine b_sipush (v := 384) X dX5_init_5 (by decide) ?_
  refine b_newI (N := 384) (kc' := 1) (ks' := 384) X (List.mem_cons_of_mem _ (zr_2 _ (List.mem_of_getElem? (i := 6) rfl))) (by decide) (by decide) (Nat.le_of_ble_eq_true rfl) rfl rfl (Nat.le_of_ble_eq_true rfl) (Nat.le_of_ble_eq_true rfl) dX5_init_8 (fun q1 => ?_)
  show bV κ 1 384 10 [(0, .ref h0)] [.ref q1, .ref h0] ([(h0, .inr (4, [.null, .null, .null, .null, .null, .int 0, .int 0])), (q1, .inl (C 0, 384, .inl (fun _ => 0)))])
  refine b_putR (fs' := [.ref q1, .null, .null, .null, .null, .int 0, .int 0]) (ty := .array .int) X I (rfl : vwCl[4]? = some (RX5, TX5, 7)) (fun w h => List.mem_cons_of_mem _ (inlX5 w h)) tyX5 tyX5_ok nmX5 0 (by decide) (List.mem_cons_of_mem _ (zr_3 _ (List.mem_of_getElem? (i := 10) rfl))) rfl rfl (by decide +kernel) rfl rfl (Nat.le_of_ble_eq_true rfl) rfl dX5_init_10 ?_
  refine b_aload_n X dX5_init_13 rfl 0 rfl ?_
  refine b_sipush (v := 384) X dX5_init_14 (by decide) ?_
  refine b_newI (N := 384) (kc' := 2) (ks' := 768) X (List.mem_cons_of_mem _ (zr_2 _ (List.mem_of_getElem? (i := 6) rfl))) (by decide) (by decide) (Nat.le_of_ble_eq_true rfl) rfl rfl (Nat.le_of_ble_eq_true rfl) (Nat.le_of_ble_eq_true rfl) dX5_init_17 (fun q2 => ?_)
  show bV κ 2 768 19 [(0, .ref h0)] [.ref q2, .ref h0] ([(h0, .inr (4, [.ref q1, .null, .null, .null, .null, .int 0, .int 0])), (q1, .inl (C 0, 384, .inl (fun _ => 0))), (q2, .inl (C 0, 384, .inl (fun _ => 0)))])
  refine b_putR (fs' := [.ref q1, .ref q2, .null, .null, .null, .int 0, .int 0]) (ty := .array .int) X I (rfl : vwCl[4]? = some (RX5, TX5, 7)) (fun w h => List.mem_cons_of_mem _ (inlX5 w h)) tyX5 tyX5_ok nmX5 1 (by decide) (List.mem_cons_of_mem _ (zr_3 _ (List.mem_of_getElem? (i := 11) rfl))) rfl rfl (by decide +kernel) rfl rfl (Nat.le_of_ble_eq_true rfl) rfl dX5_init_19 ?_
  refine b_aload_n X dX5_init_22 rfl 0 rfl ?_
  refine b_sipush (v := 384) X dX5_init_23 (by decide) ?_
  refine b_newI (N := 384) (kc' := 3) (ks' := 1152) X (List.mem_cons_of_mem _ (zr_2 _ (List.mem_of_getElem? (i := 6) rfl))) (by decide) (by decide) (Nat.le_of_ble_eq_true rfl) rfl rfl (Nat.le_of_ble_eq_true rfl) (Nat.le_of_ble_eq_true rfl) dX5_init_26 (fun q3 => ?_)
  show bV κ 3 1152 28 [(0, .ref h0)] [.ref q3, .ref h0] ([(h0, .inr (4, [.ref q1, .ref q2, .null, .null, .null, .int 0, .int 0])), (q1, .inl (C 0, 384, .inl (fun _ => 0))), (q2, .inl (C 0, 384, .inl (fun _ => 0))), (q3, .inl (C 0, 384, .inl (fun _ => 0)))])
  refine b_putR (fs' := [.ref q1, .ref q2, .ref q3, .null, .null, .int 0, .int 0]) (ty := .array .int) X I (rfl : vwCl[4]? = some (RX5, TX5, 7)) (fun w h => List.mem_cons_of_mem _ (inlX5 w h)) tyX5 tyX5_ok nmX5 2 (by decide) (List.mem_cons_of_mem _ (zr_3 _ (List.mem_of_getElem? (i := 12) rfl))) rfl rfl (by decide +kernel) rfl rfl (Nat.le_of_ble_eq_true rfl) rfl dX5_init_28 ?_
  refine b_aload_n X dX5_init_31 rfl 0 rfl ?_
  refine b_sipush (v := 384) X dX5_init_32 (by decide) ?_
  refine b_newI (N := 384) (kc' := 4) (ks' := 1536) X (List.mem_cons_of_mem _ (zr_2 _ (List.mem_of_getElem? (i := 6) rfl))) (by decide) (by decide) (Nat.le_of_ble_eq_true rfl) rfl rfl (Nat.le_of_ble_eq_true rfl) (Nat.le_of_ble_eq_true rfl) dX5_init_35 (fun q4 => ?_)
  show bV κ 4 1536 37 [(0, .ref h0)] [.ref q4, .ref h0] ([(h0, .inr (4, [.ref q1, .ref q2, .ref q3, .null, .null, .int 0, .int 0])), (q1, .inl (C 0, 384, .inl (fun _ => 0))), (q2, .inl (C 0, 384, .inl (fun _ => 0))), (q3, .inl (C 0, 384, .inl (fun _ => 0))), (q4, .inl (C 0, 384, .inl (fun _ => 0)))])
  refine b_putR (fs' := [.ref q1, .ref q2, .ref q3, .ref q4, .null, .int 0, .int 0]) (ty := .array .int) X I (rfl : vwCl[4]? = some (RX5, TX5, 7)) (fun w h => List.mem_cons_of_mem _ (inlX5 w h)) tyX5 tyX5_ok nmX5 3 (by decide) (List.mem_cons_of_mem _ (zr_3 _ (List.mem_of_getElem? (i := 13) rfl))) rfl rfl (by decide +kernel) rfl rfl (Nat.le_of_ble_eq_true rfl) rfl dX5_init_37 ?_
  refine b_aload_n X dX5_init_40 rfl 0 rfl ?_
  refine b_sipush (v := 384) X dX5_init_41 (by decide) ?_
  refine b_newI (N := 384) (kc' := 5) (ks' := 1920) X (List.mem_cons_of_mem _ (zr_2 _ (List.mem_of_getElem? (i := 6) rfl))) (by decide) (by decide) (Nat.le_of_ble_eq_true rfl) rfl rfl (Nat.le_of_ble_eq_true rfl) (Nat.le_of_ble_eq_true rfl) dX5_init_44 (fun q5 => ?_)
  show bV κ 5 1920 46 [(0, .ref h0)] [.ref q5, .ref h0] ([(h0, .inr (4, [.ref q1, .ref q2, .ref q3, .ref q4, .null, .int 0, .int 0])), (q1, .inl (C 0, 384, .inl (fun _ => 0))), (q2, .inl (C 0, 384, .inl (fun _ => 0))), (q3, .inl (C 0, 384, .inl (fun _ => 0))), (q4, .inl (C 0, 384, .inl (fun _ => 0))), (q5, .inl (C 0, 384, .inl (fun _ => 0)))])
  refine b_putR (fs' := [.ref q1, .ref q2, .ref q3, .ref q4, .ref q5, .int 0, .int 0]) (ty := .array .int) X I (rfl : vwCl[4]? = some (RX5, TX5, 7)) (fun w h => List.mem_cons_of_mem _ (inlX5 w h)) tyX5 tyX5_ok nmX5 4 (by decide) (List.mem_cons_of_mem _ (zr_3 _ (List.mem_of_getElem? (i := 14) rfl))) rfl rfl (by decide +kernel) rfl rfl (Nat.le_of_ble_eq_true rfl) rfl dX5_init_46 ?_
  refine b_aload_n X dX5_init_49 rfl 0 rfl ?_
  refine b_iconst (v := 0) X dX5_init_50 (by decide) ?_
  refine b_putI (fs' := [.ref q1, .ref q2, .ref q3, .ref q4, .ref q5, .int 0, .int 0]) X (rfl : vwCl[4]? = some (RX5, TX5, 7)) (fun w h => List.mem_cons_of_mem _ (inlX5 w h)) tyX5 tyX5_ok nmX5 5 (by decide) (List.mem_cons_of_mem _ (zr_3 _ (List.mem_of_getElem? (i := 15) rfl))) rfl (by decide +kernel) (Nat.le_of_ble_eq_true rfl) rfl dX5_init_51 ?_
  refine b_aload_n X dX5_init_54 rfl 0 rfl ?_
  refine b_iconst (v := 0) X dX5_init_55 (by decide) ?_
  refine b_putI (fs' := [.ref q1, .ref q2, .ref q3, .ref q4, .ref q5, .int 0, .int 0]) X (rfl : vwCl[4]? = some (RX5, TX5, 7)) (fun w h => List.mem_cons_of_mem _ (inlX5 w h)) tyX5 tyX5_ok nmX5 6 (by decide) (List.mem_cons_of_mem _ (zr_3 _ (List.mem_of_getElem? (i := 16) rfl))) rfl (by decide +kernel) (Nat.le_of_ble_eq_true rfl) rfl dX5_init_56 ?_
  exact b_vret X I Z (fun c => if c = 26 then h0 else if c = 27 then q1 else if c = 28 then q2 else if c = 29 then q3 else if c = 30 then q4 else if c = 31 then q5 else 0) rfl rfl dX5_init_59
