/-! the class's constructor -/
theorem df_X0 : ∀ j, j < 7 → defaultValue (tyX0 j) = vp_V [.null, .null, .int 0, .int 0, .int 0, .int 0, .int 0] j
  | 0, _ => rfl
  | 1, _ => rfl
  | 2, _ => rfl
  | 3, _ => rfl
  | 4, _ => rfl
  | 5, _ => rfl
  | 6, _ => rfl
  | j + 7, h => absurd h (by omega)
theorem df_X2 : ∀ j, j < 3 → defaultValue (tyX2 j) = vp_V [.null, .int 0, .int 0] j
  | 0, _ => rfl
  | 1, _ => rfl
  | 2, _ => rfl
  | j + 3, h => absurd h (by omega)
theorem df_X3 : ∀ j, j < 6 → defaultValue (tyX3 j) = vp_V [.null, .null, .null, .int 0, .int 0, .int 0] j
  | 0, _ => rfl
  | 1, _ => rfl
  | 2, _ => rfl
  | 3, _ => rfl
  | 4, _ => rfl
  | 5, _ => rfl
  | j + 6, h => absurd h (by omega)
theorem df_X4 : ∀ j, j < 6 → defaultValue (tyX4 j) = vp_V [.null, .null, .null, .int 0, .int 0, .int 0] j
  | 0, _ => rfl
  | 1, _ => rfl
  | 2, _ => rfl
  | 3, _ => rfl
  | 4, _ => rfl
  | 5, _ => rfl
  | j + 6, h => absurd h (by omega)
theorem df_X5 : ∀ j, j < 7 → defaultValue (tyX5 j) = vp_V [.null, .null, .null, .null, .null, .int 0, .int 0] j
  | 0, _ => rfl
  | 1, _ => rfl
  | 2, _ => rfl
  | 3, _ => rfl
  | 4, _ => rfl
  | 5, _ => rfl
  | 6, _ => rfl
  | j + 7, h => absurd h (by omega)
theorem df_X6 : ∀ j, j < 7 → defaultValue (tyX6 j) = vp_V [.null, .null, .null, .null, .null, .null, .int 0] j
  | 0, _ => rfl
  | 1, _ => rfl
  | 2, _ => rfl
  | 3, _ => rfl
  | 4, _ => rfl
  | 5, _ => rfl
  | 6, _ => rfl
  | j + 7, h => absurd h (by omega)
theorem df_X7 : ∀ j, j < 26 → defaultValue (tyX7 j) = vp_V [.int 0, .int 0, .null, .null, .null, .null, .null, .int 0, .null, .null, .int 0, .null, .null, .int 0, .null, .null, .null, .null, .int 0, .null, .int 0, .int 0, .null, .null, .long 0, .int 0] j
  | 0, _ => rfl
  | 1, _ => rfl
  | 2, _ => rfl
  | 3, _ => rfl
  | 4, _ => rfl
  | 5, _ => rfl
  | 6, _ => rfl
  | 7, _ => rfl
  | 8, _ => rfl
  | 9, _ => rfl
  | 10, _ => rfl
  | 11, _ => rfl
  | 12, _ => rfl
  | 13, _ => rfl
  | 14, _ => rfl
  | 15, _ => rfl
  | 16, _ => rfl
  | 17, _ => rfl
  | 18, _ => rfl
  | 19, _ => rfl
  | 20, _ => rfl
  | 21, _ => rfl
  | 22, _ => rfl
  | 23, _ => rfl
  | 24, _ => rfl
  | 25, _ => rfl
  | j + 26, h => absurd h (by omega)
def gX6 (h0 qc qs : Nat) (g1 g2 g3 g4 c0 c1 c2 c3 : Nat → Nat) : Nat → Nat := fun c => if c = 0 then h0 else if c ≤ 12 then g1 c else if c = 13 then qc else if c = 14 then c0 14 else if c = 15 then c1 15 else if c = 16 then c2 16 else if c = 17 then c3 17 else if c = 18 then c0 18 else if c = 19 then c1 19 else if c = 20 then c2 20 else if c = 21 then c3 21 else if c ≤ 25 then g2 c else if c ≤ 31 then g3 c else if c ≤ 58 then g4 c else qs
def SX6 : List Nat := 0 :: 13 :: ((((((((SX4 ++ [22, 23, 24, 25]) ++ [26, 27, 28, 29, 30, 31]) ++ SX0) ++ [59]) ++ [14, 18]) ++ [15, 19]) ++ [16, 20]) ++ [17, 21])
theorem inS {S : List Nat} {a b : Nat} (h : S.all (fun x => decide (a ≤ x ∧ x ≤ b)) = true) {x : Nat} (hx : x ∈ S) : a ≤ x ∧ x ≤ b := of_decide_eq_true (List.all_eq_true.mp h x hx)
set_option maxRecDepth 100000 in
theorem hwX6 {C : Nat → ClassId} {h0 qc qs : Nat} {g1 g2 g3 g4 c0 c1 c2 c3 : Nat → Nat} : (h0, (.inr (5, [.ref (g1 1), .ref qc, .ref (g2 22), .ref (g3 26), .ref (g4 32), .ref qs, .int 0]) : va_E)) :: (qc, .inl (C 2, 4, .inr (.inr (.inr (.inr (va_up (va_up (va_up (va_up (fun _ => none) 0 (some (c0 14))) 1 (some (c1 15))) 2 (some (c2 16))) 3 (some (c3 17)))))))) :: ((((((((bw (g1, C) SX4 ++ bw (g2, C) [22, 23, 24, 25]) ++ bw (g3, C) [26, 27, 28, 29, 30, 31]) ++ bw (g4, C) SX0) ++ [(qs, .inl (C 0, 32, .inl (fun _ => 0)))]) ++ bw (c0, C) [14, 18]) ++ bw (c1, C) [15, 19]) ++ bw (c2, C) [16, 20]) ++ bw (c3, C) [17, 21]) = bw (gX6 h0 qc qs g1 g2 g3 g4 c0 c1 c2 c3, C) SX6 := by
  have b1 : bw (gX6 h0 qc qs g1 g2 g3 g4 c0 c1 c2 c3, C) SX4 = bw (g1, C) SX4 := bw_cg (by decide) (fun x hx => by
    have := inS (a := 1) (b := 12) (by decide) hx
    unfold gX6
    rw [if_neg (by omega), if_pos (by omega)])
  have b4 : bw (gX6 h0 qc qs g1 g2 g3 g4 c0 c1 c2 c3, C) SX0 = bw (g4, C) SX0 := bw_cg (by decide) (fun x hx => by
    have := inS (a := 32) (b := 58) (by decide) hx
    unfold gX6
    rw [if_neg (by omega), if_neg (by omega), if_neg (by omega), if_neg (by omega), if_neg (by omega), if_neg (by omega), if_neg (by omega), if_neg (by omega), if_neg (by omega), if_neg (by omega), if_neg (by omega), if_neg (by omega), if_neg (by omega), if_pos (by omega)])
  have e13 : va_up (va_up (va_up (va_up (fun _ => none) 0 (some (c0 14))) 1 (some (c1 15))) 2 (some (c2 16))) 3 (some (c3 17)) = (fun j => if j < 4 then some (gX6 h0 qc qs g1 g2 g3 g4 c0 c1 c2 c3 (14 + j)) else none) := by
    funext j
    match j with
    | 0 => rfl
    | 1 => rfl
    | 2 => rfl
    | 3 => rfl
    | j + 4 =>
      show (if j + 4 = 3 then some (c3 17) else if j + 4 = 2 then some (c2 16) else if j + 4 = 1 then some (c1 15) else if j + 4 = 0 then some (c0 14) else none) = if j + 4 < 4 then _ else none
      rw [if_neg (by omega), if_neg (by omega), if_neg (by omega), if_neg (by omega), if_neg (by omega)]
  show _ = (h0, (.inr (5, [.ref (g1 1), .ref qc, .ref (g2 22), .ref (g3 26), .ref (g4 32), .ref qs, .int 0]) : va_E)) :: (qc, .inl (C 2, 4, .inr (.inr (.inr (.inr (fun j => if j < 4 then some (gX6 h0 qc qs g1 g2 g3 g4 c0 c1 c2 c3 (14 + j)) else none)))))) :: bw (gX6 h0 qc qs g1 g2 g3 g4 c0 c1 c2 c3, C) ((((((((SX4 ++ [22, 23, 24, 25]) ++ [26, 27, 28, 29, 30, 31]) ++ SX0) ++ [59]) ++ [14, 18]) ++ [15, 19]) ++ [16, 20]) ++ [17, 21])
  rw [bw_app, bw_app, bw_app, bw_app, bw_app, bw_app, bw_app, bw_app, b1, b4, e13]
  rfl
set_option maxRecDepth 100000 in
theorem ctX6 (l : Launch) (D : va_G) (C : Nat → ClassId) : bCM l yX6_init (Cond.code yX6_init cX6_init 2 none :: wsL_law) 2 32 59 3338 D C (.inr (5, [.null, .null, .null, .null, .null, .null, .int 0])) 0 SX6 := by
  refine bCM.ofV (own := RX6) (cc := cX6_init) (maxL := 2) (by decide) rfl rfl rfl (Nat.le_of_ble_eq_true rfl) (fun κ h0 X I Z hm hκ1 hκ2 => ?_)
  subst hκ1 hκ2
  refine b_aload_n X dX6_init_0 rfl 0 rfl ?_
  refine b_obj X (List.mem_cons_of_mem _ (zr_1 _ (List.mem_of_getElem? (i := 9) rfl))) (List.mem_cons_of_mem _ (zr_1 _ (List.mem_of_getElem? (i := 10) rfl))) (List.mem_cons_of_mem _ (zr_1 _ (List.mem_of_getElem? (i := 11) rfl))) (Nat.le_of_ble_eq_true rfl) (Nat.le_of_ble_eq_true rfl) dX6_init_1 ?_
  refine b_aload_n X dX6_init_4 rfl 0 rfl ?_
  refine b_new (C0 := RX4) (T := TX4) (N := 6) (ci := 3) (kc' := 1) (ks' := 6) (ty := tyX4) (fs := [.null, .null, .null, .int 0, .int 0, .int 0]) X (fun w h => List.mem_cons_of_mem _ (inlX4 w h)) tyX4_ok (List.mem_cons_of_mem _ (zr_1 _ (List.mem_of_getElem? (i := 12) rfl))) (List.mem_cons_of_mem _ (zr_1 _ (List.mem_of_getElem? (i := 13) rfl))) (List.mem_cons_of_mem _ (zr_1 _ (List.mem_of_getElem? (i := 14) rfl))) rfl df_X4 rfl rfl (Nat.le_of_ble_eq_true rfl) (Nat.le_of_ble_eq_true rfl) dX6_init_5 (fun q1 => ?_)
  refine b_dup X dX6_init_8 rfl ?_
  refine b_callN (kc' := 12) (ks' := 254) X (ctX4 κ.2.1 κ.2.2.2.2.2.2.2.2.2.2.1 C) (zr_2 _ (List.mem_of_getElem? (i := 12) rfl)) (List.mem_of_getElem? (i := 0) rfl : Cond.methodLinkNest RX6 11 yX4_init RX6 ∈ bNest) (zr_1 _ (List.mem_of_getElem? (i := 14) rfl)) (zr_2 _ (List.mem_of_getElem? (i := 11) rfl)) rfl ⟨by decide, by decide, by decide +kernel⟩ (Nat.le_of_ble_eq_true rfl) (Nat.le_of_ble_eq_true rfl) rfl rfl (Nat.le_of_ble_eq_true rfl) (Nat.le_of_ble_eq_true rfl) (Nat.le_of_ble_eq_true rfl) dX6_init_9 (fun g1 hg1 => ?_)
  subst hg1
  show bV κ 12 254 12 [(0, .ref h0)] [.ref (g1 1), .ref h0] ((h0, .inr (5, [.null, .null, .null, .null, .null, .null, .int 0])) :: bw (g1, C) SX4)
  refine b_putR (fs' := [.ref (g1 1), .null, .null, .null, .null, .null, .int 0]) (ty := .object "LevelledInk$Sheet") X I (rfl : vwCl[5]? = some (RX6, TX6, 7)) (fun w h => List.mem_cons_of_mem _ (inlX6 w h)) tyX6 tyX6_ok nmX6 0 (by decide) (List.mem_cons_of_mem _ (zr_1 _ (List.mem_of_getElem? (i := 15) rfl))) rfl rfl (by decide +kernel) rfl rfl (Nat.le_of_ble_eq_true rfl) rfl dX6_init_12 ?_
  refine b_aload_n X dX6_init_15 rfl 0 rfl ?_
  refine b_iconst (v := 4) X dX6_init_16 (by decide) ?_
  refine b_newq (N := 4) (kc' := 13) (ks' := 258) X (List.mem_cons_of_mem _ (zr_1 _ (List.mem_of_getElem? (i := 16) rfl))) (by decide) (by decide) (Nat.le_of_ble_eq_true rfl) rfl rfl (Nat.le_of_ble_eq_true rfl) (Nat.le_of_ble_eq_true rfl) dX6_init_17 (fun qc => ?_)
  refine b_perm (ws' := (h0, .inr (5, [.ref (g1 1), .null, .null, .null, .null, .null, .int 0])) :: (qc, .inl (C 2, 4, .inr (.inr (.inr (.inr (fun _ => none)))))) :: bw (g1, C) SX4) (List.Perm.cons _ (List.perm_append_singleton _ _)) ?_
  refine b_putR (fs' := [.ref (g1 1), .ref qc, .null, .null, .null, .null, .int 0]) (ty := .array (.object "LevelledInk$Card")) X I (rfl : vwCl[5]? = some (RX6, TX6, 7)) (fun w h => List.mem_cons_of_mem _ (inlX6 w h)) tyX6 tyX6_ok nmX6 1 (by decide) (List.mem_cons_of_mem _ (zr_1 _ (List.mem_of_getElem? (i := 17) rfl))) rfl rfl (by decide +kernel) rfl rfl (Nat.le_of_ble_eq_true rfl) rfl dX6_init_20 ?_
  refine b_aload_n X dX6_init_23 rfl 0 rfl ?_
  refine b_new (C0 := RX3) (T := TX3) (N := 6) (ci := 2) (kc' := 14) (ks' := 264) (ty := tyX3) (fs := [.null, .null, .null, .int 0, .int 0, .int 0]) X (fun w h => List.mem_cons_of_mem _ (inlX3 w h)) tyX3_ok (List.mem_cons_of_mem _ (zr_1 _ (List.mem_of_getElem? (i := 18) rfl))) (List.mem_cons_of_mem _ (zr_1 _ (List.mem_of_getElem? (i := 19) rfl))) (List.mem_cons_of_mem _ (zr_1 _ (List.mem_of_getElem? (i := 20) rfl))) rfl df_X3 rfl rfl (Nat.le_of_ble_eq_true rfl) (Nat.le_of_ble_eq_true rfl) dX6_init_24 (fun q2 => ?_)
  refine b_dup X dX6_init_27 rfl ?_
  refine b_callN (kc' := 17) (ks' := 416) X (ctX3 κ.2.1 κ.2.2.2.2.2.2.2.2.2.2.1 C) (zr_2 _ (List.mem_of_getElem? (i := 22) rfl)) (List.mem_of_getElem? (i := 1) rfl : Cond.methodLinkNest RX6 26 yX3_init RX6 ∈ bNest) (zr_1 _ (List.mem_of_getElem? (i := 20) rfl)) (zr_2 _ (List.mem_of_getElem? (i := 21) rfl)) rfl ⟨by decide, by decide, by decide +kernel⟩ (Nat.le_of_ble_eq_true rfl) (Nat.le_of_ble_eq_true rfl) rfl rfl (Nat.le_of_ble_eq_true rfl) (Nat.le_of_ble_eq_true rfl) (Nat.le_of_ble_eq_true rfl) dX6_init_28 (fun g2 hg2 => ?_)
  subst hg2
  show bV κ 17 416 31 [(0, .ref h0)] [.ref (g2 22), .ref h0] ((h0, .inr (5, [.ref (g1 1), .ref qc, .null, .null, .null, .null, .int 0])) :: (qc, .inl (C 2, 4, .inr (.inr (.inr (.inr (fun _ => none)))))) :: (bw (g1, C) SX4 ++ bw (g2, C) [22, 23, 24, 25]))
  refine b_putR (fs' := [.ref (g1 1), .ref qc, .ref (g2 22), .null, .null, .null, .int 0]) (ty := .object "LevelledInk$Shears") X I (rfl : vwCl[5]? = some (RX6, TX6, 7)) (fun w h => List.mem_cons_of_mem _ (inlX6 w h)) tyX6 tyX6_ok nmX6 2 (by decide) (List.mem_cons_of_mem _ (zr_1 _ (List.mem_of_getElem? (i := 21) rfl))) rfl rfl (by decide +kernel) rfl rfl (Nat.le_of_ble_eq_true rfl) rfl dX6_init_31 ?_
  refine b_aload_n X dX6_init_34 rfl 0 rfl ?_
  refine b_new (C0 := RX5) (T := TX5) (N := 7) (ci := 4) (kc' := 18) (ks' := 423) (ty := tyX5) (fs := [.null, .null, .null, .null, .null, .int 0, .int 0]) X (fun w h => List.mem_cons_of_mem _ (inlX5 w h)) tyX5_ok (List.mem_cons_of_mem _ (zr_1 _ (List.mem_of_getElem? (i := 22) rfl))) (List.mem_cons_of_mem _ (zr_1 _ (List.mem_of_getElem? (i := 23) rfl))) (List.mem_cons_of_mem _ (zr_2 _ (List.mem_of_getElem? (i := 0) rfl))) rfl df_X5 rfl rfl (Nat.le_of_ble_eq_true rfl) (Nat.le_of_ble_eq_true rfl) dX6_init_35 (fun q3 => ?_)
  refine b_dup X dX6_init_38 rfl ?_
  refine b_callN (kc' := 23) (ks' := 2343) X (ctX5 κ.2.1 κ.2.2.2.2.2.2.2.2.2.2.1 C) (zr_3 _ (List.mem_of_getElem? (i := 8) rfl)) (List.mem_of_getElem? (i := 2) rfl : Cond.methodLinkNest RX6 33 yX5_init RX6 ∈ bNest) (zr_2 _ (List.mem_of_getElem? (i := 0) rfl)) (zr_3 _ (List.mem_of_getElem? (i := 7) rfl)) rfl ⟨by decide, by decide, by decide +kernel⟩ (Nat.le_of_ble_eq_true rfl) (Nat.le_of_ble_eq_true rfl) rfl rfl (Nat.le_of_ble_eq_true rfl) (Nat.le_of_ble_eq_true rfl) (Nat.le_of_ble_eq_true rfl) dX6_init_39 (fun g3 hg3 => ?_)
  subst hg3
  show bV κ 23 2343 42 [(0, .ref h0)] [.ref (g3 26), .ref h0] ((h0, .inr (5, [.ref (g1 1), .ref qc, .ref (g2 22), .null, .null, .null, .int 0])) :: (qc, .inl (C 2, 4, .inr (.inr (.inr (.inr (fun _ => none)))))) :: ((bw (g1, C) SX4 ++ bw (g2, C) [22, 23, 24, 25]) ++ bw (g3, C) [26, 27, 28, 29, 30, 31]))
  refine b_putR (fs' := [.ref (g1 1), .ref qc, .ref (g2 22), .ref (g3 26), .null, .null, .int 0]) (ty := .object "LevelledInk$Strokes") X I (rfl : vwCl[5]? = some (RX6, TX6, 7)) (fun w h => List.mem_cons_of_mem _ (inlX6 w h)) tyX6 tyX6_ok nmX6 3 (by decide) (List.mem_cons_of_mem _ (zr_2 _ (List.mem_of_getElem? (i := 1) rfl))) rfl rfl (by decide +kernel) rfl rfl (Nat.le_of_ble_eq_true rfl) rfl dX6_init_42 ?_
  refine b_aload_n X dX6_init_45 rfl 0 rfl ?_
  refine b_new (C0 := RX0) (T := TX0) (N := 7) (ci := 0) (kc' := 24) (ks' := 2350) (ty := tyX0) (fs := [.null, .null, .int 0, .int 0, .int 0, .int 0, .int 0]) X (fun w h => List.mem_cons_of_mem _ (inlX0 w h)) tyX0_ok (List.mem_cons_of_mem _ (zr_2 _ (List.mem_of_getElem? (i := 2) rfl))) (List.mem_cons_of_mem _ (zr_2 _ (List.mem_of_getElem? (i := 3) rfl))) (List.mem_cons_of_mem _ (zr_2 _ (List.mem_of_getElem? (i := 4) rfl))) rfl df_X0 rfl rfl (Nat.le_of_ble_eq_true rfl) (Nat.le_of_ble_eq_true rfl) dX6_init_46 (fun q4 => ?_)
  refine b_dup X dX6_init_49 rfl ?_
  refine b_callN (kc' := 50) (ks' := 3166) X (ctX0 κ.2.1 κ.2.2.2.2.2.2.2.2.2.2.1 C) (zr_3 _ (List.mem_of_getElem? (i := 18) rfl)) (List.mem_of_getElem? (i := 3) rfl : Cond.methodLinkNest RX6 40 yX0_init RX6 ∈ bNest) (zr_2 _ (List.mem_of_getElem? (i := 4) rfl)) (zr_3 _ (List.mem_of_getElem? (i := 17) rfl)) rfl ⟨by decide, by decide, by decide +kernel⟩ (Nat.le_of_ble_eq_true rfl) (Nat.le_of_ble_eq_true rfl) rfl rfl (Nat.le_of_ble_eq_true rfl) (Nat.le_of_ble_eq_true rfl) (Nat.le_of_ble_eq_true rfl) dX6_init_50 (fun g4 hg4 => ?_)
  subst hg4
  show bV κ 50 3166 53 [(0, .ref h0)] [.ref (g4 32), .ref h0] ((h0, .inr (5, [.ref (g1 1), .ref qc, .ref (g2 22), .ref (g3 26), .null, .null, .int 0])) :: (qc, .inl (C 2, 4, .inr (.inr (.inr (.inr (fun _ => none)))))) :: (((bw (g1, C) SX4 ++ bw (g2, C) [22, 23, 24, 25]) ++ bw (g3, C) [26, 27, 28, 29, 30, 31]) ++ bw (g4, C) SX0))
  refine b_putR (fs' := [.ref (g1 1), .ref qc, .ref (g2 22), .ref (g3 26), .ref (g4 32), .null, .int 0]) (ty := .object "LevelledInk$Baseline") X I (rfl : vwCl[5]? = some (RX6, TX6, 7)) (fun w h => List.mem_cons_of_mem _ (inlX6 w h)) tyX6 tyX6_ok nmX6 4 (by decide) (List.mem_cons_of_mem _ (zr_2 _ (List.mem_of_getElem? (i := 5) rfl))) rfl rfl (by decide +kernel) rfl rfl (Nat.le_of_ble_eq_true rfl) rfl dX6_init_53 ?_
  refine b_aload_n X dX6_init_56 rfl 0 rfl ?_
  refine b_bipush (v := 32) X dX6_init_57 (by decide) ?_
  refine b_newI (N := 32) (kc' := 51) (ks' := 3198) X (List.mem_cons_of_mem _ (zr_2 _ (List.mem_of_getElem? (i := 6) rfl))) (by decide) (by decide) (Nat.le_of_ble_eq_true rfl) rfl rfl (Nat.le_of_ble_eq_true rfl) (Nat.le_of_ble_eq_true rfl) dX6_init_59 (fun qs => ?_)
  show bV κ 51 3198 61 [(0, .ref h0)] [.ref qs, .ref h0] ((h0, .inr (5, [.ref (g1 1), .ref qc, .ref (g2 22), .ref (g3 26), .ref (g4 32), .null, .int 0])) :: (qc, .inl (C 2, 4, .inr (.inr (.inr (.inr (fun _ => none)))))) :: ((((bw (g1, C) SX4 ++ bw (g2, C) [22, 23, 24, 25]) ++ bw (g3, C) [26, 27, 28, 29, 30, 31]) ++ bw (g4, C) SX0) ++ [(qs, .inl (C 0, 32, .inl (fun _ => 0)))]))
  refine b_putR (fs' := [.ref (g1 1), .ref qc, .ref (g2 22), .ref (g3 26), .ref (g4 32), .ref qs, .int 0]) (ty := .array .int) X I (rfl : vwCl[5]? = some (RX6, TX6, 7)) (fun w h => List.mem_cons_of_mem _ (inlX6 w h)) tyX6 tyX6_ok nmX6 5 (by decide) (List.mem_cons_of_mem _ (zr_2 _ (List.mem_of_getElem? (i := 7) rfl))) rfl rfl (by decide +kernel) rfl rfl (Nat.le_of_ble_eq_true rfl) rfl dX6_init_61 ?_
  refine b_aload_n X dX6_init_64 rfl 0 rfl ?_
  refine b_iconst (v := 0) X dX6_init_65 (by decide) ?_
  refine b_putI (fs' := [.ref (g1 1), .ref qc, .ref (g2 22), .ref (g3 26), .ref (g4 32), .ref qs, .int 0]) X (rfl : vwCl[5]? = some (RX6, TX6, 7)) (fun w h => List.mem_cons_of_mem _ (inlX6 w h)) tyX6 tyX6_ok nmX6 6 (by decide) (List.mem_cons_of_mem _ (zr_2 _ (List.mem_of_getElem? (i := 8) rfl))) rfl (by decide +kernel) (Nat.le_of_ble_eq_true rfl) rfl dX6_init_66 ?_
  refine b_iconst (v := 0) X dX6_init_69 (by decide) ?_
  refine b_istore_n (lv' := [(1, .int 0), (0, .ref h0)]) X dX6_init_70 rfl hm (by decide) rfl ?_
  refine b_iload_n X dX6_init_71 rfl 0 rfl ?_
  refine b_iconst (v := 4) X dX6_init_72 (by decide) ?_
  refine b_icmp_ge_n (tgt := 95) X dX6_init_73 (by decide) (by decide) ?_
  refine b_aload_n X dX6_init_76 rfl 1 rfl ?_
  refine b_getf X (rfl : vwCl[5]? = some (RX6, TX6, 7)) (fun w h => List.mem_cons_of_mem _ (inlX6 w h)) 1 (by decide) (List.mem_cons_of_mem _ (zr_1 _ (List.mem_of_getElem? (i := 17) rfl))) rfl dX6_init_77 ?_
  refine b_iload_n X dX6_init_80 rfl 0 rfl ?_
  refine b_new (C0 := RX2) (T := TX2) (N := 3) (ci := 1) (kc' := 52) (ks' := 3201) (ty := tyX2) (fs := [.null, .int 0, .int 0]) X (fun w h => List.mem_cons_of_mem _ (inlX2 w h)) tyX2_ok (List.mem_cons_of_mem _ (zr_1 _ (List.mem_of_getElem? (i := 16) rfl))) (List.mem_cons_of_mem _ (zr_2 _ (List.mem_of_getElem? (i := 9) rfl))) (List.mem_cons_of_mem _ (zr_2 _ (List.mem_of_getElem? (i := 10) rfl))) rfl df_X2 rfl rfl (Nat.le_of_ble_eq_true rfl) (Nat.le_of_ble_eq_true rfl) dX6_init_81 (fun q6 => ?_)
  refine b_dup X dX6_init_84 rfl ?_
  refine b_callN (kc' := 53) (ks' := 3233) X (ctX2_0 κ.2.1 κ.2.2.2.2.2.2.2.2.2.2.1 C) (zr_4 _ (List.mem_of_getElem? (i := 5) rfl)) (List.mem_of_getElem? (i := 4) rfl : Cond.methodLinkNest RX6 53 yX2_init RX6 ∈ bNest) (zr_2 _ (List.mem_of_getElem? (i := 10) rfl)) (zr_4 _ (List.mem_of_getElem? (i := 4) rfl)) rfl ⟨by decide, by decide, by decide +kernel⟩ (Nat.le_of_ble_eq_true rfl) (Nat.le_of_ble_eq_true rfl) rfl rfl (Nat.le_of_ble_eq_true rfl) (Nat.le_of_ble_eq_true rfl) (Nat.le_of_ble_eq_true rfl) dX6_init_85 (fun c0 hc0 => ?_)
  subst hc0
  show bV κ 53 3233 88 [(1, .int 0), (0, .ref h0)] [.ref (c0 14), .int 0, .ref qc] ((h0, .inr (5, [.ref (g1 1), .ref qc, .ref (g2 22), .ref (g3 26), .ref (g4 32), .ref qs, .int 0])) :: (qc, .inl (C 2, 4, .inr (.inr (.inr (.inr (fun _ => none)))))) :: (((((bw (g1, C) SX4 ++ bw (g2, C) [22, 23, 24, 25]) ++ bw (g3, C) [26, 27, 28, 29, 30, 31]) ++ bw (g4, C) SX0) ++ [(qs, .inl (C 0, 32, .inl (fun _ => 0)))]) ++ bw (c0, C) [14, 18]))
  refine b_aast (vs := [.ref (c0 18), .int (-1), .int 0]) X (List.mem_append_right _ (show (c0 14, (.inr (1, [.ref (c0 18), .int (-1), .int 0]) : va_E)) ∈ bw (c0, C) [14, 18] from List.mem_cons_self)) (zin_sp (by decide)) dX6_init_88 ?_
  show bV κ 53 3233 89 [(1, .int 0), (0, .ref h0)] [] ((h0, .inr (5, [.ref (g1 1), .ref qc, .ref (g2 22), .ref (g3 26), .ref (g4 32), .ref qs, .int 0])) :: (qc, .inl (C 2, 4, .inr (.inr (.inr (.inr (va_up (fun _ => none) 0 (some (c0 14)))))))) :: (((((bw (g1, C) SX4 ++ bw (g2, C) [22, 23, 24, 25]) ++ bw (g3, C) [26, 27, 28, 29, 30, 31]) ++ bw (g4, C) SX0) ++ [(qs, .inl (C 0, 32, .inl (fun _ => 0)))]) ++ bw (c0, C) [14, 18]))
  refine b_iinc (j := 0) (v := 1) (lv' := [(1, .int 1), (0, .ref h0)]) X dX6_init_89 rfl (by decide) hm (by decide) rfl ?_
  refine b_goto (tgt := 71) X dX6_init_92 (by decide) ?_
  refine b_iload_n X dX6_init_71 rfl 0 rfl ?_
  refine b_iconst (v := 4) X dX6_init_72 (by decide) ?_
  refine b_icmp_ge_n (tgt := 95) X dX6_init_73 (by decide) (by decide) ?_
  refine b_aload_n X dX6_init_76 rfl 1 rfl ?_
  refine b_getf X (rfl : vwCl[5]? = some (RX6, TX6, 7)) (fun w h => List.mem_cons_of_mem _ (inlX6 w h)) 1 (by decide) (List.mem_cons_of_mem _ (zr_1 _ (List.mem_of_getElem? (i := 17) rfl))) rfl dX6_init_77 ?_
  refine b_iload_n X dX6_init_80 rfl 0 rfl ?_
  refine b_new (C0 := RX2) (T := TX2) (N := 3) (ci := 1) (kc' := 54) (ks' := 3236) (ty := tyX2) (fs := [.null, .int 0, .int 0]) X (fun w h => List.mem_cons_of_mem _ (inlX2 w h)) tyX2_ok (List.mem_cons_of_mem _ (zr_1 _ (List.mem_of_getElem? (i := 16) rfl))) (List.mem_cons_of_mem _ (zr_2 _ (List.mem_of_getElem? (i := 9) rfl))) (List.mem_cons_of_mem _ (zr_2 _ (List.mem_of_getElem? (i := 10) rfl))) rfl df_X2 rfl rfl (Nat.le_of_ble_eq_true rfl) (Nat.le_of_ble_eq_true rfl) dX6_init_81 (fun q7 => ?_)
  refine b_dup X dX6_init_84 rfl ?_
  refine b_callN (kc' := 55) (ks' := 3268) X (ctX2_1 κ.2.1 κ.2.2.2.2.2.2.2.2.2.2.1 C) (zr_4 _ (List.mem_of_getElem? (i := 5) rfl)) (List.mem_of_getElem? (i := 4) rfl : Cond.methodLinkNest RX6 53 yX2_init RX6 ∈ bNest) (zr_2 _ (List.mem_of_getElem? (i := 10) rfl)) (zr_4 _ (List.mem_of_getElem? (i := 4) rfl)) rfl ⟨by decide, by decide, by decide +kernel⟩ (Nat.le_of_ble_eq_true rfl) (Nat.le_of_ble_eq_true rfl) rfl rfl (Nat.le_of_ble_eq_true rfl) (Nat.le_of_ble_eq_true rfl) (Nat.le_of_ble_eq_true rfl) dX6_init_85 (fun c1 hc1 => ?_)
  subst hc1
  show bV κ 55 3268 88 [(1, .int 1), (0, .ref h0)] [.ref (c1 15), .int 1, .ref qc] ((h0, .inr (5, [.ref (g1 1), .ref qc, .ref (g2 22), .ref (g3 26), .ref (g4 32), .ref qs, .int 0])) :: (qc, .inl (C 2, 4, .inr (.inr (.inr (.inr (va_up (fun _ => none) 0 (some (c0 14)))))))) :: ((((((bw (g1, C) SX4 ++ bw (g2, C) [22, 23, 24, 25]) ++ bw (g3, C) [26, 27, 28, 29, 30, 31]) ++ bw (g4, C) SX0) ++ [(qs, .inl (C 0, 32, .inl (fun _ => 0)))]) ++ bw (c0, C) [14, 18]) ++ bw (c1, C) [15, 19]))
  refine b_aast (vs := [.ref (c1 19), .int (-1), .int 0]) X (List.mem_append_right _ (show (c1 15, (.inr (1, [.ref (c1 19), .int (-1), .int 0]) : va_E)) ∈ bw (c1, C) [15, 19] from List.mem_cons_self)) (zin_sp (by decide)) dX6_init_88 ?_
  show bV κ 55 3268 89 [(1, .int 1), (0, .ref h0)] [] ((h0, .inr (5, [.ref (g1 1), .ref qc, .ref (g2 22), .ref (g3 26), .ref (g4 32), .ref qs, .int 0])) :: (qc, .inl (C 2, 4, .inr (.inr (.inr (.inr (va_up (va_up (fun _ => none) 0 (some (c0 14))) 1 (some (c1 15)))))))) :: ((((((bw (g1, C) SX4 ++ bw (g2, C) [22, 23, 24, 25]) ++ bw (g3, C) [26, 27, 28, 29, 30, 31]) ++ bw (g4, C) SX0) ++ [(qs, .inl (C 0, 32, .inl (fun _ => 0)))]) ++ bw (c0, C) [14, 18]) ++ bw (c1, C) [15, 19]))
  refine b_iinc (j := 0) (v := 2) (lv' := [(1, .int 2), (0, .ref h0)]) X dX6_init_89 rfl (by decide) hm (by decide) rfl ?_
  refine b_goto (tgt := 71) X dX6_init_92 (by decide) ?_
  refine b_iload_n X dX6_init_71 rfl 0 rfl ?_
  refine b_iconst (v := 4) X dX6_init_72 (by decide) ?_
  refine b_icmp_ge_n (tgt := 95) X dX6_init_73 (by decide) (by decide) ?_
  refine b_aload_n X dX6_init_76 rfl 1 rfl ?_
  refine b_getf X (rfl : vwCl[5]? = some (RX6, TX6, 7)) (fun w h => List.mem_cons_of_mem _ (inlX6 w h)) 1 (by decide) (List.mem_cons_of_mem _ (zr_1 _ (List.mem_of_getElem? (i := 17) rfl))) rfl dX6_init_77 ?_
  refine b_iload_n X dX6_init_80 rfl 0 rfl ?_
  refine b_new (C0 := RX2) (T := TX2) (N := 3) (ci := 1) (kc' := 56) (ks' := 3271) (ty := tyX2) (fs := [.null, .int 0, .int 0]) X (fun w h => List.mem_cons_of_mem _ (inlX2 w h)) tyX2_ok (List.mem_cons_of_mem _ (zr_1 _ (List.mem_of_getElem? (i := 16) rfl))) (List.mem_cons_of_mem _ (zr_2 _ (List.mem_of_getElem? (i := 9) rfl))) (List.mem_cons_of_mem _ (zr_2 _ (List.mem_of_getElem? (i := 10) rfl))) rfl df_X2 rfl rfl (Nat.le_of_ble_eq_true rfl) (Nat.le_of_ble_eq_true rfl) dX6_init_81 (fun q8 => ?_)
  refine b_dup X dX6_init_84 rfl ?_
  refine b_callN (kc' := 57) (ks' := 3303) X (ctX2_2 κ.2.1 κ.2.2.2.2.2.2.2.2.2.2.1 C) (zr_4 _ (List.mem_of_getElem? (i := 5) rfl)) (List.mem_of_getElem? (i := 4) rfl : Cond.methodLinkNest RX6 53 yX2_init RX6 ∈ bNest) (zr_2 _ (List.mem_of_getElem? (i := 10) rfl)) (zr_4 _ (List.mem_of_getElem? (i := 4) rfl)) rfl ⟨by decide, by decide, by decide +kernel⟩ (Nat.le_of_ble_eq_true rfl) (Nat.le_of_ble_eq_true rfl) rfl rfl (Nat.le_of_ble_eq_true rfl) (Nat.le_of_ble_eq_true rfl) (Nat.le_of_ble_eq_true rfl) dX6_init_85 (fun c2 hc2 => ?_)
  subst hc2
  show bV κ 57 3303 88 [(1, .int 2), (0, .ref h0)] [.ref (c2 16), .int 2, .ref qc] ((h0, .inr (5, [.ref (g1 1), .ref qc, .ref (g2 22), .ref (g3 26), .ref (g4 32), .ref qs, .int 0])) :: (qc, .inl (C 2, 4, .inr (.inr (.inr (.inr (va_up (va_up (fun _ => none) 0 (some (c0 14))) 1 (some (c1 15)))))))) :: (((((((bw (g1, C) SX4 ++ bw (g2, C) [22, 23, 24, 25]) ++ bw (g3, C) [26, 27, 28, 29, 30, 31]) ++ bw (g4, C) SX0) ++ [(qs, .inl (C 0, 32, .inl (fun _ => 0)))]) ++ bw (c0, C) [14, 18]) ++ bw (c1, C) [15, 19]) ++ bw (c2, C) [16, 20]))
  refine b_aast (vs := [.ref (c2 20), .int (-1), .int 0]) X (List.mem_append_right _ (show (c2 16, (.inr (1, [.ref (c2 20), .int (-1), .int 0]) : va_E)) ∈ bw (c2, C) [16, 20] from List.mem_cons_self)) (zin_sp (by decide)) dX6_init_88 ?_
  show bV κ 57 3303 89 [(1, .int 2), (0, .ref h0)] [] ((h0, .inr (5, [.ref (g1 1), .ref qc, .ref (g2 22), .ref (g3 26), .ref (g4 32), .ref qs, .int 0])) :: (qc, .inl (C 2, 4, .inr (.inr (.inr (.inr (va_up (va_up (va_up (fun _ => none) 0 (some (c0 14))) 1 (some (c1 15))) 2 (some (c2 16)))))))) :: (((((((bw (g1, C) SX4 ++ bw (g2, C) [22, 23, 24, 25]) ++ bw (g3, C) [26, 27, 28, 29, 30, 31]) ++ bw (g4, C) SX0) ++ [(qs, .inl (C 0, 32, .inl (fun _ => 0)))]) ++ bw (c0, C) [14, 18]) ++ bw (c1, C) [15, 19]) ++ bw (c2, C) [16, 20]))
  refine b_iinc (j := 0) (v := 3) (lv' := [(1, .int 3), (0, .ref h0)]) X dX6_init_89 rfl (by decide) hm (by decide) rfl ?_
  refine b_goto (tgt := 71) X dX6_init_92 (by decide) ?_
  refine b_iload_n X dX6_init_71 rfl 0 rfl ?_
  refine b_iconst (v := 4) X dX6_init_72 (by decide) ?_
  refine b_icmp_ge_n (tgt := 95) X dX6_init_73 (by decide) (by decide) ?_
  refine b_aload_n X dX6_init_76 rfl 1 rfl ?_
  refine b_getf X (rfl : vwCl[5]? = some (RX6, TX6, 7)) (fun w h => List.mem_cons_of_mem _ (inlX6 w h)) 1 (by decide) (List.mem_cons_of_mem _ (zr_1 _ (List.mem_of_getElem? (i := 17) rfl))) rfl dX6_init_77 ?_
  refine b_iload_n X dX6_init_80 rfl 0 rfl ?_
  refine b_new (C0 := RX2) (T := TX2) (N := 3) (ci := 1) (kc' := 58) (ks' := 3306) (ty := tyX2) (fs := [.null, .int 0, .int 0]) X (fun w h => List.mem_cons_of_mem _ (inlX2 w h)) tyX2_ok (List.mem_cons_of_mem _ (zr_1 _ (List.mem_of_getElem? (i := 16) rfl))) (List.mem_cons_of_mem _ (zr_2 _ (List.mem_of_getElem? (i := 9) rfl))) (List.mem_cons_of_mem _ (zr_2 _ (List.mem_of_getElem? (i := 10) rfl))) rfl df_X2 rfl rfl (Nat.le_of_ble_eq_true rfl) (Nat.le_of_ble_eq_true rfl) dX6_init_81 (fun q9 => ?_)
  refine b_dup X dX6_init_84 rfl ?_
  refine b_callN (kc' := 59) (ks' := 3338) X (ctX2_3 κ.2.1 κ.2.2.2.2.2.2.2.2.2.2.1 C) (zr_4 _ (List.mem_of_getElem? (i := 5) rfl)) (List.mem_of_getElem? (i := 4) rfl : Cond.methodLinkNest RX6 53 yX2_init RX6 ∈ bNest) (zr_2 _ (List.mem_of_getElem? (i := 10) rfl)) (zr_4 _ (List.mem_of_getElem? (i := 4) rfl)) rfl ⟨by decide, by decide, by decide +kernel⟩ (Nat.le_of_ble_eq_true rfl) (Nat.le_of_ble_eq_true rfl) rfl rfl (Nat.le_of_ble_eq_true rfl) (Nat.le_of_ble_eq_true rfl) (Nat.le_of_ble_eq_true rfl) dX6_init_85 (fun c3 hc3 => ?_)
  subst hc3
  show bV κ 59 3338 88 [(1, .int 3), (0, .ref h0)] [.ref (c3 17), .int 3, .ref qc] ((h0, .inr (5, [.ref (g1 1), .ref qc, .ref (g2 22), .ref (g3 26), .ref (g4 32), .ref qs, .int 0])) :: (qc, .inl (C 2, 4, .inr (.inr (.inr (.inr (va_up (va_up (va_up (fun _ => none) 0 (some (c0 14))) 1 (some (c1 15))) 2 (some (c2 16)))))))) :: ((((((((bw (g1, C) SX4 ++ bw (g2, C) [22, 23, 24, 25]) ++ bw (g3, C) [26, 27, 28, 29, 30, 31]) ++ bw (g4, C) SX0) ++ [(qs, .inl (C 0, 32, .inl (fun _ => 0)))]) ++ bw (c0, C) [14, 18]) ++ bw (c1, C) [15, 19]) ++ bw (c2, C) [16, 20]) ++ bw (c3, C) [17, 21]))
  refine b_aast (vs := [.ref (c3 21), .int (-1), .int 0]) X (List.mem_append_right _ (show (c3 17, (.inr (1, [.ref (c3 21), .int (-1), .int 0]) : va_E)) ∈ bw (c3, C) [17, 21] from List.mem_cons_self)) (zin_sp (by decide)) dX6_init_88 ?_
  show bV κ 59 3338 89 [(1, .int 3), (0, .ref h0)] [] ((h0, .inr (5, [.ref (g1 1), .ref qc, .ref (g2 22), .ref (g3 26), .ref (g4 32), .ref qs, .int 0])) :: (qc, .inl (C 2, 4, .inr (.inr (.inr (.inr (va_up (va_up (va_up (va_up (fun _ => none) 0 (some (c0 14))) 1 (some (c1 15))) 2 (some (c2 16))) 3 (some (c3 17)))))))) :: ((((((((bw (g1, C) SX4 ++ bw (g2, C) [22, 23, 24, 25]) ++ bw (g3, C) [26, 27, 28, 29, 30, 31]) ++ bw (g4, C) SX0) ++ [(qs, .inl (C 0, 32, .inl (fun _ => 0)))]) ++ bw (c0, C) [14, 18]) ++ bw (c1, C) [15, 19]) ++ bw (c2, C) [16, 20]) ++ bw (c3, C) [17, 21]))
  refine b_iinc (j := 0) (v := 4) (lv' := [(1, .int 4), (0, .ref h0)]) X dX6_init_89 rfl (by decide) hm (by decide) rfl ?_
  refine b_goto (tgt := 71) X dX6_init_92 (by decide) ?_
  refine b_iload_n X dX6_init_71 rfl 0 rfl ?_
  refine b_iconst (v := 4) X dX6_init_72 (by decide) ?_
  refine b_icmp_ge_p (tgt := 95) X dX6_init_73 (by decide) (by decide) ?_
  exact b_vret X I Z (gX6 h0 qc qs g1 g2 g3 g4 c0 c1 c2 c3) rfl hwX6 dX6_init_95
