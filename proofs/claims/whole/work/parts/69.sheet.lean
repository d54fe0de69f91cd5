/-! Sheet and Baseline -/
theorem Mi_0 {c : Nat} (h : c ≠ 1 ∧ c ≠ 14 ∧ c ≠ 15 ∧ c ≠ 16 ∧ c ≠ 17 ∧ c ≠ 60 ∧ c ≠ 62) : Mi c = fun _ => 0 := by
  unfold Mi
  rw [if_neg h.1, if_neg h.2.1, if_neg h.2.2.1, if_neg h.2.2.2.1, if_neg h.2.2.2.2.1, if_neg h.2.2.2.2.2.1, if_neg h.2.2.2.2.2.2]
theorem b_rows {g r : Nat → Nat} {C : Nat → ClassId} {b K N : Nat} (hz : ∀ i, i < N → zlay (b + i) = .inr (.inl (0, K))) (hm : ∀ i, i < N → Mi (b + i) = fun _ => 0) (hg : ∀ i, i < N → g (b + i) = r i) : bw (g, C) ((List.range N).map (fun i => b + i)) = (List.range N).map (fun i => (r i, .inl (C 0, K, .inl (fun _ => 0)))) := by
  unfold bw
  rw [List.map_map]
  apply List.map_congr_left
  intro i hi
  have h1 := hz i (List.mem_range.mp hi)
  have h2 := hm i (List.mem_range.mp hi)
  show (g (b + i), zent (g, C) Mi 0 (b + i) (zlay (b + i))) = _
  rw [h1, hg i (List.mem_range.mp hi)]
  show (r i, Sum.inl (C 0, K, Sum.inl (Mi (b + i)))) = _
  rw [h2]
theorem b_outer {g r : Nat → Nat} {b N : Nat} (hg : ∀ i, i < N → g (b + i) = r i) : (fun j => if j < N then some (g (b + j)) else none) = (fun i => if i < N then some (r i) else none) := by
  funext j
  by_cases h : j < N
  · rw [if_pos h, if_pos h, hg j h]
  · rw [if_neg h, if_neg h]
def gX4 (h0 q1 q2 q3 : Nat) (r : Nat → Nat) : Nat → Nat := fun c => if c = 1 then h0 else if c = 2 then q1 else if c = 3 then q2 else if c = 4 then q3 else r (c - 5)
theorem gX4_r {h0 q1 q2 q3 : Nat} {r : Nat → Nat} (i : Nat) : gX4 h0 q1 q2 q3 r (5 + i) = r i := by
  unfold gX4
  rw [if_neg (by omega), if_neg (by omega), if_neg (by omega), if_neg (by omega), show 5 + i - 5 = i by omega]
def gX0 (h0 q1 q2 : Nat) (r : Nat → Nat) : Nat → Nat := fun c => if c = 32 then h0 else if c = 33 then q1 else if c = 58 then q2 else r (c - 34)
theorem gX0_r {h0 q1 q2 : Nat} {r : Nat → Nat} (i : Nat) (hi : i < 24) : gX0 h0 q1 q2 r (34 + i) = r i := by
  unfold gX0
  rw [if_neg (by omega), if_neg (by omega), if_neg (by omega), show 34 + i - 34 = i by omega]
theorem zl_r4 : ∀ i, i < 8 → zlay (5 + i) = .inr (.inl (0, 24))
  | 0, _ => rfl
  | 1, _ => rfl
  | 2, _ => rfl
  | 3, _ => rfl
  | 4, _ => rfl
  | 5, _ => rfl
  | 6, _ => rfl
  | 7, _ => rfl
  | i + 8, h => absurd h (by omega)
theorem zl_r0 : ∀ i, i < 24 → zlay (34 + i) = .inr (.inl (0, 32))
  | 0, _ => rfl
  | 1, _ => rfl
  | 2, _ => rfl
  | 3, _ => rfl
  | 4, _ => rfl
  | 5, _ => rfl
  | 6, _ => rfl
  | 7, _ => rfl
  | 8, _ => rfl
  | 9, _ => rfl
  | 10, _ => rfl
  | 11, _ => rfl
  | 12, _ => rfl
  | 13, _ => rfl
  | 14, _ => rfl
  | 15, _ => rfl
  | 16, _ => rfl
  | 17, _ => rfl
  | 18, _ => rfl
  | 19, _ => rfl
  | 20, _ => rfl
  | 21, _ => rfl
  | 22, _ => rfl
  | 23, _ => rfl
  | i + 24, h => absurd h (by omega)
def SX4 : List Nat := 1 :: 2 :: 3 :: 4 :: (List.range 8).map (fun i => 5 + i)
def SX0 : List Nat := 32 :: 33 :: ((List.range 24).map (fun i => 34 + i) ++ [58])
set_option maxRecDepth 100000 in
theorem ctX4 (l : Launch) (D : va_G) (C : Nat → ClassId) : bCM l yX4_init (Cond.code yX4_init cX4_init 1 none :: wsL_law) 1 12 11 248 D C (.inr (3, [.null, .null, .null, .int 0, .int 0, .int 0])) 1 SX4 := by
  refine bCM.ofV (own := RX4) (cc := cX4_init) (maxL := 1) (by decide) rfl rfl rfl (Nat.le_of_ble_eq_true rfl) (fun κ h0 X I Z hm hκ1 hκ2 => ?_)
  subst hκ1 hκ2
  refine b_aload_n X dX4_init_0 rfl 0 rfl ?_
  refine b_obj X (List.mem_cons_of_mem _ (zr_2 _ (List.mem_of_getElem? (i := 13) rfl))) (List.mem_cons_of_mem _ (zr_1 _ (List.mem_of_getElem? (i := 10) rfl))) (List.mem_cons_of_mem _ (zr_1 _ (List.mem_of_getElem? (i := 11) rfl))) (Nat.le_of_ble_eq_true rfl) (Nat.le_of_ble_eq_true rfl) dX4_init_1 ?_
  refine b_aload_n X dX4_init_4 rfl 0 rfl ?_
  refine b_bipush (v := 24) X dX4_init_5 (by decide) ?_
  refine b_newI (N := 24) (kc' := 1) (ks' := 24) X (List.mem_cons_of_mem _ (zr_2 _ (List.mem_of_getElem? (i := 6) rfl))) (by decide) (by decide) (Nat.le_of_ble_eq_true rfl) rfl rfl (Nat.le_of_ble_eq_true rfl) (Nat.le_of_ble_eq_true rfl) dX4_init_7 (fun q1 => ?_)
  show bV κ 1 24 9 [(0, .ref h0)] [.ref q1, .ref h0] ([(h0, .inr (3, [.null, .null, .null, .int 0, .int 0, .int 0])), (q1, .inl (C 0, 24, .inl (fun _ => 0)))])
  refine b_putR (fs' := [.ref q1, .null, .null, .int 0, .int 0, .int 0]) (ty := .array .int) X I (rfl : vwCl[3]? = some (RX4, TX4, 6)) (fun w h => List.mem_cons_of_mem _ (inlX4 w h)) tyX4 tyX4_ok nmX4 0 (by decide) (List.mem_cons_of_mem _ (zr_2 _ (List.mem_of_getElem? (i := 14) rfl))) rfl rfl (by decide +kernel) rfl rfl (Nat.le_of_ble_eq_true rfl) rfl dX4_init_9 ?_
  refine b_aload_n X dX4_init_12 rfl 0 rfl ?_
  refine b_bipush (v := 24) X dX4_init_13 (by decide) ?_
  refine b_newI (N := 24) (kc' := 2) (ks' := 48) X (List.mem_cons_of_mem _ (zr_2 _ (List.mem_of_getElem? (i := 6) rfl))) (by decide) (by decide) (Nat.le_of_ble_eq_true rfl) rfl rfl (Nat.le_of_ble_eq_true rfl) (Nat.le_of_ble_eq_true rfl) dX4_init_15 (fun q2 => ?_)
  show bV κ 2 48 17 [(0, .ref h0)] [.ref q2, .ref h0] ([(h0, .inr (3, [.ref q1, .null, .null, .int 0, .int 0, .int 0])), (q1, .inl (C 0, 24, .inl (fun _ => 0))), (q2, .inl (C 0, 24, .inl (fun _ => 0)))])
  refine b_putR (fs' := [.ref q1, .ref q2, .null, .int 0, .int 0, .int 0]) (ty := .array .int) X I (rfl : vwCl[3]? = some (RX4, TX4, 6)) (fun w h => List.mem_cons_of_mem _ (inlX4 w h)) tyX4 tyX4_ok nmX4 1 (by decide) (List.mem_cons_of_mem _ (zr_2 _ (List.mem_of_getElem? (i := 15) rfl))) rfl rfl (by decide +kernel) rfl rfl (Nat.le_of_ble_eq_true rfl) rfl dX4_init_17 ?_
  refine b_aload_n X dX4_init_20 rfl 0 rfl ?_
  refine b_bipush (v := 8) X dX4_init_21 (by decide) ?_
  refine b_bipush (v := 24) X dX4_init_23 (by decide) ?_
  refine b_mna (N := 8) (K := 24) (kc' := 11) (ks' := 248) X (List.mem_cons_of_mem _ (zr_2 _ (List.mem_of_getElem? (i := 16) rfl))) (List.mem_cons_of_mem _ (zr_2 _ (List.mem_of_getElem? (i := 6) rfl))) (by decide) (by decide) (by decide) (by decide) (Nat.le_of_ble_eq_true rfl) (Nat.le_of_ble_eq_true rfl) (Nat.le_of_ble_eq_true rfl) rfl rfl (Nat.le_of_ble_eq_true rfl) (Nat.le_of_ble_eq_true rfl) dX4_init_25 (fun q3 r => ?_)
  show bV κ 11 248 29 [(0, .ref h0)] [.ref q3, .ref h0] ((h0, .inr (3, [.ref q1, .ref q2, .null, .int 0, .int 0, .int 0])) :: (q1, .inl (C 0, 24, .inl (fun _ => 0))) :: (q2, .inl (C 0, 24, .inl (fun _ => 0))) :: (q3, .inl (C 3, 8, .inr (.inr (.inr (.inr (fun i => if i < 8 then some (r i) else none)))))) :: (List.range 8).map (fun i => (r i, .inl (C 0, 24, .inl (fun _ => 0)))))
  refine b_putR (fs' := [.ref q1, .ref q2, .ref q3, .int 0, .int 0, .int 0]) (ty := .array (.array .int)) X I (rfl : vwCl[3]? = some (RX4, TX4, 6)) (fun w h => List.mem_cons_of_mem _ (inlX4 w h)) tyX4 tyX4_ok nmX4 2 (by decide) (List.mem_cons_of_mem _ (zr_2 _ (List.mem_of_getElem? (i := 17) rfl))) rfl rfl (by decide +kernel) rfl rfl (Nat.le_of_ble_eq_true rfl) rfl dX4_init_29 ?_
  refine b_aload_n X dX4_init_32 rfl 0 rfl ?_
  refine b_bipush (v := 24) X dX4_init_33 (by decide) ?_
  refine b_putI (fs' := [.ref q1, .ref q2, .ref q3, .int 24, .int 0, .int 0]) X (rfl : vwCl[3]? = some (RX4, TX4, 6)) (fun w h => List.mem_cons_of_mem _ (inlX4 w h)) tyX4 tyX4_ok nmX4 3 (by decide) (List.mem_cons_of_mem _ (zr_2 _ (List.mem_of_getElem? (i := 18) rfl))) rfl (by decide +kernel) (Nat.le_of_ble_eq_true rfl) rfl dX4_init_35 ?_
  refine b_aload_n X dX4_init_38 rfl 0 rfl ?_
  refine b_iconst (v := 0) X dX4_init_39 (by decide) ?_
  refine b_putI (fs' := [.ref q1, .ref q2, .ref q3, .int 24, .int 0, .int 0]) X (rfl : vwCl[3]? = some (RX4, TX4, 6)) (fun w h => List.mem_cons_of_mem _ (inlX4 w h)) tyX4 tyX4_ok nmX4 4 (by decide) (List.mem_cons_of_mem _ (zr_2 _ (List.mem_of_getElem? (i := 19) rfl))) rfl (by decide +kernel) (Nat.le_of_ble_eq_true rfl) rfl dX4_init_40 ?_
  refine b_aload_n X dX4_init_43 rfl 0 rfl ?_
  refine b_iconst (v := 0) X dX4_init_44 (by decide) ?_
  refine b_putI (fs' := [.ref q1, .ref q2, .ref q3, .int 24, .int 0, .int 0]) X (rfl : vwCl[3]? = some (RX4, TX4, 6)) (fun w h => List.mem_cons_of_mem _ (inlX4 w h)) tyX4 tyX4_ok nmX4 5 (by decide) (List.mem_cons_of_mem _ (zr_2 _ (List.mem_of_getElem? (i := 20) rfl))) rfl (by decide +kernel) (Nat.le_of_ble_eq_true rfl) rfl dX4_init_45 ?_
  refine b_vret X I Z (gX4 h0 q1 q2 q3 r) rfl ?_ dX4_init_48
  show _ = bw (gX4 h0 q1 q2 q3 r, C) [1, 2, 3] ++ ((q3, Sum.inl (C 3, 8, Sum.inr (Sum.inr (Sum.inr (Sum.inr (fun j => if j < 8 then some (gX4 h0 q1 q2 q3 r (5 + j)) else none)))))) :: bw (gX4 h0 q1 q2 q3 r, C) ((List.range 8).map (fun i => 5 + i)))
  rw [b_outer (fun i _ => gX4_r i), b_rows (K := 24) zl_r4 (fun i hi => Mi_0 (by omega)) (fun i _ => gX4_r i)]
  rfl
set_option maxRecDepth 100000 in
theorem ctX0 (l : Launch) (D : va_G) (C : Nat → ClassId) : bCM l yX0_init (Cond.code yX0_init cX0_init 1 none :: wsL_law) 1 12 26 816 D C (.inr (0, [.null, .null, .int 0, .int 0, .int 0, .int 0, .int 0])) 32 SX0 := by
  refine bCM.ofV (own := RX0) (cc := cX0_init) (maxL := 1) (by decide) rfl rfl rfl (Nat.le_of_ble_eq_true rfl) (fun κ h0 X I Z hm hκ1 hκ2 => ?_)
  subst hκ1 hκ2
  refine b_aload_n X dX0_init_0 rfl 0 rfl ?_
  refine b_obj X (List.mem_cons_of_mem _ (zr_3 _ (List.mem_of_getElem? (i := 19) rfl))) (List.mem_cons_of_mem _ (zr_1 _ (List.mem_of_getElem? (i := 10) rfl))) (List.mem_cons_of_mem _ (zr_1 _ (List.mem_of_getElem? (i := 11) rfl))) (Nat.le_of_ble_eq_true rfl) (Nat.le_of_ble_eq_true rfl) dX0_init_1 ?_
  refine b_aload_n X dX0_init_4 rfl 0 rfl ?_
  refine b_bipush (v := 24) X dX0_init_5 (by decide) ?_
  refine b_bipush (v := 32) X dX0_init_7 (by decide) ?_
  refine b_mna (N := 24) (K := 32) (kc' := 25) (ks' := 792) X (List.mem_cons_of_mem _ (zr_3 _ (List.mem_of_getElem? (i := 20) rfl))) (List.mem_cons_of_mem _ (zr_2 _ (List.mem_of_getElem? (i := 6) rfl))) (by decide) (by decide) (by decide) (by decide) (Nat.le_of_ble_eq_true rfl) (Nat.le_of_ble_eq_true rfl) (Nat.le_of_ble_eq_true rfl) rfl rfl (Nat.le_of_ble_eq_true rfl) (Nat.le_of_ble_eq_true rfl) dX0_init_9 (fun q1 r => ?_)
  show bV κ 25 792 13 [(0, .ref h0)] [.ref q1, .ref h0] ((h0, .inr (0, [.null, .null, .int 0, .int 0, .int 0, .int 0, .int 0])) :: (q1, .inl (C 3, 24, .inr (.inr (.inr (.inr (fun i => if i < 24 then some (r i) else none)))))) :: (List.range 24).map (fun i => (r i, .inl (C 0, 32, .inl (fun _ => 0)))))
  refine b_putR (fs' := [.ref q1, .null, .int 0, .int 0, .int 0, .int 0, .int 0]) (ty := .array (.array .int)) X I (rfl : vwCl[0]? = some (RX0, TX0, 7)) (fun w h => List.mem_cons_of_mem _ (inlX0 w h)) tyX0 tyX0_ok nmX0 0 (by decide) (List.mem_cons_of_mem _ (zr_3 _ (List.mem_of_getElem? (i := 21) rfl))) rfl rfl (by decide +kernel) rfl rfl (Nat.le_of_ble_eq_true rfl) rfl dX0_init_13 ?_
  refine b_aload_n X dX0_init_16 rfl 0 rfl ?_
  refine b_bipush (v := 24) X dX0_init_17 (by decide) ?_
  refine b_newI (N := 24) (kc' := 26) (ks' := 816) X (List.mem_cons_of_mem _ (zr_2 _ (List.mem_of_getElem? (i := 6) rfl))) (by decide) (by decide) (Nat.le_of_ble_eq_true rfl) rfl rfl (Nat.le_of_ble_eq_true rfl) (Nat.le_of_ble_eq_true rfl) dX0_init_19 (fun q2 => ?_)
  show bV κ 26 816 21 [(0, .ref h0)] [.ref q2, .ref h0] ((h0, .inr (0, [.ref q1, .null, .int 0, .int 0, .int 0, .int 0, .int 0])) :: (q1, .inl (C 3, 24, .inr (.inr (.inr (.inr (fun i => if i < 24 then some (r i) else none)))))) :: ((List.range 24).map (fun i => (r i, .inl (C 0, 32, .inl (fun _ => 0)))) ++ [(q2, .inl (C 0, 24, .inl (fun _ => 0)))]))
  refine b_putR (fs' := [.ref q1, .ref q2, .int 0, .int 0, .int 0, .int 0, .int 0]) (ty := .array .int) X I (rfl : vwCl[0]? = some (RX0, TX0, 7)) (fun w h => List.mem_cons_of_mem _ (inlX0 w h)) tyX0 tyX0_ok nmX0 1 (by decide) (List.mem_cons_of_mem _ (zr_3 _ (List.mem_of_getElem? (i := 22) rfl))) rfl rfl (by decide +kernel) rfl rfl (Nat.le_of_ble_eq_true rfl) rfl dX0_init_21 ?_
  refine b_aload_n X dX0_init_24 rfl 0 rfl ?_
  refine b_iconst (v := 0) X dX0_init_25 (by decide) ?_
  refine b_putI (fs' := [.ref q1, .ref q2, .int 0, .int 0, .int 0, .int 0, .int 0]) X (rfl : vwCl[0]? = some (RX0, TX0, 7)) (fun w h => List.mem_cons_of_mem _ (inlX0 w h)) tyX0 tyX0_ok nmX0 2 (by decide) (List.mem_cons_of_mem _ (zr_3 _ (List.mem_of_getElem? (i := 23) rfl))) rfl (by decide +kernel) (Nat.le_of_ble_eq_true rfl) rfl dX0_init_26 ?_
  refine b_aload_n X dX0_init_29 rfl 0 rfl ?_
  refine b_iconst (v := 0) X dX0_init_30 (by decide) ?_
  refine b_putI (fs' := [.ref q1, .ref q2, .int 0, .int 0, .int 0, .int 0, .int 0]) X (rfl : vwCl[0]? = some (RX0, TX0, 7)) (fun w h => List.mem_cons_of_mem _ (inlX0 w h)) tyX0 tyX0_ok nmX0 3 (by decide) (List.mem_cons_of_mem _ (zr_4 _ (List.mem_of_getElem? (i := 0) rfl))) rfl (by decide +kernel) (Nat.le_of_ble_eq_true rfl) rfl dX0_init_31 ?_
  refine b_aload_n X dX0_init_34 rfl 0 rfl ?_
  refine b_iconst (v := 0) X dX0_init_35 (by decide) ?_
  refine b_putI (fs' := [.ref q1, .ref q2, .int 0, .int 0, .int 0, .int 0, .int 0]) X (rfl : vwCl[0]? = some (RX0, TX0, 7)) (fun w h => List.mem_cons_of_mem _ (inlX0 w h)) tyX0 tyX0_ok nmX0 4 (by decide) (List.mem_cons_of_mem _ (zr_4 _ (List.mem_of_getElem? (i := 1) rfl))) rfl (by decide +kernel) (Nat.le_of_ble_eq_true rfl) rfl dX0_init_36 ?_
  refine b_aload_n X dX0_init_39 rfl 0 rfl ?_
  refine b_iconst (v := 0) X dX0_init_40 (by decide) ?_
  refine b_putI (fs' := [.ref q1, .ref q2, .int 0, .int 0, .int 0, .int 0, .int 0]) X (rfl : vwCl[0]? = some (RX0, TX0, 7)) (fun w h => List.mem_cons_of_mem _ (inlX0 w h)) tyX0 tyX0_ok nmX0 5 (by decide) (List.mem_cons_of_mem _ (zr_4 _ (List.mem_of_getElem? (i := 2) rfl))) rfl (by decide +kernel) (Nat.le_of_ble_eq_true rfl) rfl dX0_init_41 ?_
  refine b_aload_n X dX0_init_44 rfl 0 rfl ?_
  refine b_iconst (v := 0) X dX0_init_45 (by decide) ?_
  refine b_putI (fs' := [.ref q1, .ref q2, .int 0, .int 0, .int 0, .int 0, .int 0]) X (rfl : vwCl[0]? = some (RX0, TX0, 7)) (fun w h => List.mem_cons_of_mem _ (inlX0 w h)) tyX0 tyX0_ok nmX0 6 (by decide) (List.mem_cons_of_mem _ (zr_4 _ (List.mem_of_getElem? (i := 3) rfl))) rfl (by decide +kernel) (Nat.le_of_ble_eq_true rfl) rfl dX0_init_46 ?_
  refine b_vret X I Z (gX0 h0 q1 q2 r) rfl ?_ dX0_init_49
  show _ = (h0, Sum.inr (0, [.ref q1, .ref q2, .int 0, .int 0, .int 0, .int 0, .int 0])) :: (q1, Sum.inl (C 3, 24, Sum.inr (Sum.inr (Sum.inr (Sum.inr (fun j => if j < 24 then some (gX0 h0 q1 q2 r (34 + j)) else none)))))) :: bw (gX0 h0 q1 q2 r, C) ((List.range 24).map (fun i => 34 + i) ++ [58])
  rw [b_outer (fun i hi => gX0_r i hi), bw_app, b_rows (K := 32) zl_r0 (fun i hi => Mi_0 (by omega)) (fun i hi => gX0_r i hi)]
  rfl
