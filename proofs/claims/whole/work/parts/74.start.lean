/-! the law, from its entry -/
theorem lw_known {s : State} {args : Array Value} (hts : ∀ w ∈ lw_tbl, w.before args s = true) : ∃ (D : va_G) (C : Nat → ClassId), bKK D C s := by
  obtain ⟨c0, i0, k0⟩ := u_known (C := RX0) (T := TX0) (N := 7) (n := 7) hts wc_X0 (hts _ (wsL_in _ (zr_2 _ (List.mem_of_getElem? (i := 3) rfl))))
  obtain ⟨c1, i1, k1⟩ := u_known (C := RX2) (T := TX2) (N := 3) (n := 3) hts wc_X2 (hts _ (wsL_in _ (zr_2 _ (List.mem_of_getElem? (i := 9) rfl))))
  obtain ⟨c2, i2, k2⟩ := u_known (C := RX3) (T := TX3) (N := 6) (n := 6) hts wc_X3 (hts _ (wsL_in _ (zr_1 _ (List.mem_of_getElem? (i := 19) rfl))))
  obtain ⟨c3, i3, k3⟩ := u_known (C := RX4) (T := TX4) (N := 6) (n := 6) hts wc_X4 (hts _ (wsL_in _ (zr_1 _ (List.mem_of_getElem? (i := 13) rfl))))
  obtain ⟨c4, i4, k4⟩ := u_known (C := RX5) (T := TX5) (N := 7) (n := 7) hts wc_X5 (hts _ (wsL_in _ (zr_1 _ (List.mem_of_getElem? (i := 23) rfl))))
  obtain ⟨c5, i5, k5⟩ := u_known (C := RX6) (T := TX6) (N := 7) (n := 7) hts wc_X6 (hts _ (wsL_in _ (zr_1 _ (List.mem_of_getElem? (i := 1) rfl))))
  obtain ⟨c6, i6, k6⟩ := u_known (C := RX7) (T := TX7) (N := 26) (n := 26) hts wc_X7 (hts _ (wsL_in _ (zr_1 _ (List.mem_of_getElem? (i := 4) rfl))))
  obtain ⟨a0, q0, m0, f0, g0, h0⟩ := Cond.arrayClass_spec (hts _ (wsL_in _ (zr_2 _ (List.mem_of_getElem? (i := 6) rfl))))
  obtain ⟨a1, q1, m1, f1, g1, h1⟩ := Cond.arrayClass_spec (hts _ (wsL_in _ (zr_3 _ (List.mem_of_getElem? (i := 2) rfl))))
  obtain ⟨m2, a2, q2, d2, -, g2, h2, f2⟩ := Cond.arrayOver_spec (hts _ aoC_in)
  obtain ⟨m3, a3, q3, d3, -, g3, h3, f3⟩ := arrayOver_specB (hts _ aoI_in)
  refine ⟨(fun k => if k = 0 then c0 else if k = 1 then c1 else if k = 2 then c2 else if k = 3 then c3 else if k = 4 then c4 else if k = 5 then c5 else c6, fun k => if k = 0 then i0 else if k = 1 then i1 else if k = 2 then i2 else if k = 3 then i3 else if k = 4 then i4 else if k = 5 then i5 else i6), fun k => if k = 0 then a0 else if k = 1 then a1 else if k = 2 then a2 else a3, ⟨⟨fun k q hq => ?_, fun k q hq => ?_⟩, fun w hw => ?_⟩, hts _ aoI_in, hts _ aoC_in, fun w hw => ?_⟩
  · match k, hq with
    | 0, hq => cases hq; exact k0
    | 1, hq => cases hq; exact k1
    | 2, hq => cases hq; exact k2
    | 3, hq => cases hq; exact k3
    | 4, hq => cases hq; exact k4
    | 5, hq => cases hq; exact k5
    | 6, hq => cases hq; exact k6
    | k + 7, hq => simp [vwCl] at hq
  · match k, hq with
    | 0, hq => cases hq; exact ⟨fun n z => ⟨fun k h => (by cases h), q0, g0, m0, h0⟩, f0⟩
    | 1, hq => cases hq; exact ⟨fun n z => ⟨fun k h => (by cases h), q1, g1, m1, h1⟩, f1⟩
    | 2, hq => cases hq; exact ⟨fun n z => ⟨fun k h => (by cases h), q2, g2, m2, h2⟩, q2, m2, g2, h2, d2, f2⟩
    | 3, hq => cases hq; exact ⟨fun n z => ⟨fun k h => (by cases h), q3, g3, m3, h3⟩, f3⟩
    | k + 4, hq => simp [ztys] at hq
  · have h := hts w (zNest_in w hw)
    simp only [zNest, List.mem_cons, List.not_mem_nil, or_false] at hw
    rcases hw with rfl | rfl | rfl | rfl <;> exact va_Nw.of rfl h
  · have h := hts w (bNest_in w hw)
    simp only [bNest, List.mem_cons, List.not_mem_nil, or_false] at hw
    rcases hw with rfl | rfl | rfl | rfl | rfl <;> exact va_Nw.of rfl h
set_option maxRecDepth 100000 in
theorem whole_start {p : Program} {e : Env} {s : State} {m : MethodId} {below : List Frame} {meth : Method} {c : Code} (l : Launch) (hflags : l.flags = flags0) {b L : Nat} {xs : Nat → Int32} (hL : L ≤ 3072) (C0 : lw_At p s m meth c b L xs) : W p l e room_1 s m #[Value.ref b] below meth c s.heap [] 0 0 (lw_Z below #[Value.ref b] s) (entryFrame m ([Value.ref b] : List Value).toArray 4) := by
  obtain ⟨hx, hb, hr, hml, hown, hts, hX, hbl, hlocks, hgv⟩ := C0
  obtain ⟨D, C, hK⟩ := lw_known hts
  have htw : ∀ w ∈ (Cond.initialized RX6 :: wsL_law), w.before #[Value.ref b] s = true := List.forall_mem_cons.mpr ⟨hts _ (wsL_in _ zw_1_2), fun w h => hts w (wsL_in w h)⟩
  obtain ⟨κ, eκ⟩ : ∃ κ : zK, κ = (p, l, e, room_1, s, m, #[Value.ref b], below, meth, c, D, (fun q => s.heap.size ≤ q), lw_Z below #[Value.ref b] s, 4, 77, 13806) := ⟨_, rfl⟩
  have X : bCx κ C cL_law (Cond.initialized RX6 :: wsL_law) RL 11 412 77 13806 := by
    subst eκ
    exact ⟨hx, hb, hml, hown, htw, hK, fun _ h => h, Nat.le_refl _, Nat.le_refl _, Nat.le_of_ble_eq_true rfl, Nat.le_of_ble_eq_true rfl⟩
  have Y : zSc κ b L xs := by
    subst eκ
    exact ⟨hX, hbl, Nat.not_le.mpr hbl⟩
  have hm : κ.2.2.2.2.2.2.2.2.2.2.2.2.2.1 = 4 := by rw [eκ]
  have main : bV κ 0 0 0 [(0, .ref b)] [] [] := by
    have hl1 : κ.2.1 = l := by rw [eκ]
    have hD1 : κ.2.2.2.2.2.2.2.2.2.2.1 = D := by rw [eκ]
    refine b_new (C0 := RX6) (T := TX6) (N := 7) (ci := 5) (kc' := 1) (ks' := 7) (ty := tyX6) (fs := [.null, .null, .null, .null, .null, .null, .int 0]) X (fun w h => List.mem_cons_of_mem _ (inlX6 w h)) tyX6_ok (List.mem_cons_of_mem _ (zr_1 _ (List.mem_of_getElem? (i := 0) rfl))) (List.mem_cons_of_mem _ (zr_1 _ (List.mem_of_getElem? (i := 1) rfl))) (List.mem_cons_of_mem _ (zr_1 _ (List.mem_of_getElem? (i := 2) rfl))) rfl df_X6 rfl rfl (Nat.le_of_ble_eq_true rfl) (Nat.le_of_ble_eq_true rfl) dL_law_0 (fun q0 => ?_)
    refine b_dup X dL_law_3 rfl ?_
    refine b_callI (kc' := 60) (ks' := 3345) X (by rw [hl1, hD1]; exact ctX6 l D C) (zr_1 _ (List.mem_of_getElem? (i := 8) rfl)) (zr_1 _ (List.mem_of_getElem? (i := 6) rfl)) (zr_1 _ (List.mem_of_getElem? (i := 2) rfl)) (zr_1 _ (List.mem_of_getElem? (i := 7) rfl)) rfl ⟨by decide, by decide, by decide +kernel⟩ (Nat.le_of_ble_eq_true rfl) (Nat.le_of_ble_eq_true rfl) rfl rfl (Nat.le_of_ble_eq_true rfl) (Nat.le_of_ble_eq_true rfl) (Nat.le_of_ble_eq_true rfl) dL_law_4 (fun g0 hg0 => ?_)
    subst hg0
    refine b_astore_n (lv' := [(1, .ref (g0 0)), (0, .ref b)]) X dL_law_7 rfl hm (by decide) rfl ?_
    refine b_new (C0 := RX7) (T := TX7) (N := 26) (ci := 6) (kc' := 61) (ks' := 3371) (ty := tyX7) (fs := [.int 0, .int 0, .null, .null, .null, .null, .null, .int 0, .null, .null, .int 0, .null, .null, .int 0, .null, .null, .null, .null, .int 0, .null, .int 0, .int 0, .null, .null, .long 0, .int 0]) X (fun w h => List.mem_cons_of_mem _ (inlX7 w h)) tyX7_ok (List.mem_cons_of_mem _ (zr_1 _ (List.mem_of_getElem? (i := 3) rfl))) (List.mem_cons_of_mem _ (zr_1 _ (List.mem_of_getElem? (i := 4) rfl))) (List.mem_cons_of_mem _ (zr_1 _ (List.mem_of_getElem? (i := 5) rfl))) rfl df_X7 rfl rfl (Nat.le_of_ble_eq_true rfl) (Nat.le_of_ble_eq_true rfl) dL_law_8 (fun q7 => ?_)
    refine b_dup X dL_law_11 rfl ?_
    refine b_callI (kc' := 77) (ks' := 13806) X (by rw [hl1, hD1]; exact ctX7 l D C) (zr_4 _ (List.mem_of_getElem? (i := 12) rfl)) (zr_4 _ (List.mem_of_getElem? (i := 10) rfl)) (zr_1 _ (List.mem_of_getElem? (i := 5) rfl)) (zr_4 _ (List.mem_of_getElem? (i := 11) rfl)) rfl ⟨by decide, by decide, by decide +kernel⟩ (Nat.le_of_ble_eq_true rfl) (Nat.le_of_ble_eq_true rfl) rfl rfl (Nat.le_of_ble_eq_true rfl) (Nat.le_of_ble_eq_true rfl) (Nat.le_of_ble_eq_true rfl) dL_law_12 (fun g7 hg7 => ?_)
    subst hg7
    refine b_astore_n (lv' := [(2, .ref (g7 60)), (1, .ref (g0 0)), (0, .ref b)]) X dL_law_15 rfl hm (by decide) rfl ?_
    refine b_iconst (v := 0) X dL_law_16 (by decide) ?_
    refine b_istore_n (lv' := [(3, .int 0), (2, .ref (g7 60)), (1, .ref (g0 0)), (0, .ref b)]) X dL_law_17 rfl hm (by decide) rfl ?_
    clear hl1 hD1
    subst eκ
    intro ls H locs hl hP hD hS
    have hp := all_made C g0 g7
    have hP' : va_P D vwCl (zwld (gA g0 g7, C) Mi 0) H := vaP_perm hp hP
    have hD' : zDD (gA g0 g7, C) (fun q => s.heap.size ≤ q) := zDD.of (vaD_perm hp hD)
    have X' : zCx (p, l, e, room_1, s, m, #[Value.ref b], below, meth, c, D, (fun q => s.heap.size ≤ q), lw_Z below #[Value.ref b] s, 4, 77, 13806) (gA g0 g7, C) cL_law (Cond.initialized RX6 :: wsL_law) RL ret 11 412 := ⟨hx, hb, hml, hown, htw, hK.1, hD', fun _ h => h, hr, hlocks, Nat.le_refl _, Nat.le_refl _, Nat.le_of_ble_eq_true rfl, Nat.le_of_ble_eq_true rfl⟩
    have kend : ∀ lv M F, zV (p, l, e, room_1, s, m, #[Value.ref b], below, meth, c, D, (fun q => s.heap.size ≤ q), lw_Z below #[Value.ref b] s, 4, 77, 13806) (gA g0 g7, C) 1001 lv [] M F := by
      intro lv M F
      refine z_iconst (v := 1) X' dL_law_1001 (by decide) ?_
      intro ls H locs hl hP hS
      exact va_forget hS.2.2 (W.widen (k := 600000) (n := 7302250) (Nat.le_of_ble_eq_true rfl) (Nat.le_of_ble_eq_true rfl) (lw_ret hx hb hr hlocks dL_law_1002))
    exact lw_loop X' Y rfl hL kend 512 0 Mi 0 Rl_i (by omega) (by omega) ls H locs hl hP' hS
  subst eκ
  have hl := lv_entry [Value.ref b] (n := 4) (Nat.le_of_ble_eq_true rfl)
  rw [lg_entry_eq]
  exact main _ _ _ hl (fun k q h => by simp at h) ⟨fun i j p q h => by simp at h, fun k q h => by simp at h⟩ va_S.rf
