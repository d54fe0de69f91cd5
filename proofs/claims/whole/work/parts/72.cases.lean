/-! the law: its script, its calls, its cases -/
def zSc (κ : zK) (b L : Nat) (xs : Nat → Int32) : Prop := match κ with
  | (_, _, _, _, s, _, _, _, _, _, _, A, _, _, _, _) => va_X b L xs s s.heap ∧ b < s.heap.size ∧ ¬ A b
section LROWS
variable {κ : zK} {G : zG} {cc : ByteArray} {Ts : List Cond} {own : String} {rt : Option FieldType} {rf rl : Nat} {pc : Nat} {lv : List (Nat × Value)} {st : List Value} {M : zMem} {F : Int64} {b L : Nat} {xs : Nat → Int32}
theorem z_sld (X : zCx κ G cc Ts own rt rf rl) (Y : zSc κ b L xs) {i : Int32} (hin : vp_in i L) (hd : decode cc pc = .ok (.iaload, 1)) (k : zV κ G (pc + 1) lv (.int (xs i.toNatClampNeg) :: st) M F) : zV κ G pc lv (.int i :: .ref b :: st) M F := by
  obtain ⟨p, l, e, R, s, m, args, below, meth, cdd, D, A, Q, nL, kc, ks⟩ := κ
  exact fun ls H locs hl hP hS => va_sld X.1 X.2.1 Y.1 Y.2.1 Y.2.2 hS hin hd (k ls H locs hl hP hS)
theorem z_slen (X : zCx κ G cc Ts own rt rf rl) (Y : zSc κ b L xs) (hd : decode cc pc = .ok (.arraylength, 1)) (k : zV κ G (pc + 1) lv (.int (Int32.ofNat L) :: st) M F) : zV κ G pc lv (.ref b :: st) M F := by
  obtain ⟨p, l, e, R, s, m, args, below, meth, cdd, D, A, Q, nL, kc, ks⟩ := κ
  exact fun ls H locs hl hP hS => va_slen X.1 X.2.1 Y.1 Y.2.1 Y.2.2 hS hd (k ls H locs hl hP hS)
end LROWS
section LCALL
variable {κ : zK} {G : zG} {cc : ByteArray} {cd : Cond} {rt : Option FieldType} {rf rl : Nat} {pc : Nat} {lv : List (Nat × Value)} {st : List Value} {M : zMem} {F : Int64}
theorem gc_L_13 (X : zCx κ G cc (cd :: wsL_law) RL rt rf rl) {As stk : List Value} {r : Int32} {M' : zMem} {F' : Int64} (hM : zCM κ.2.1 yX6_page wX6_page { frames := 2, cells := 0, slots := 0, locals := 45 } κ.2.2.2.2.2.2.2.2.2.2.1 G (.ref (G.1 0) :: As) M F (some (.int r)) M' F') (hn : As.length = 1) (hstk : stk = As.reverse ++ .ref (G.1 0) :: st) (hfr : 3 ≤ rf) (hlo : 67 ≤ rl) (hst : (st.map fun v => v.category).sum ≤ 8) (hd : decode cc pc = .ok (.invokevirtual 13, 3)) (k : zV κ G (pc + 3) lv (.int r :: st) M' F') : zV κ G pc lv stk M F := z_callV (C := RX6) X hM (zgood (zinV (zr_5 _ (List.mem_of_getElem? (i := 7) rfl)) (zr_5 _ (List.mem_of_getElem? (i := 8) rfl)) (zr_5 _ (List.mem_of_getElem? (i := 9) rfl)) (zr_1 _ (List.mem_of_getElem? (i := 2) rfl)) (zr_5 _ (List.mem_of_getElem? (i := 10) rfl)))) rfl ⟨rfl, by decide, by decide, by decide +kernel⟩ zc_0 zl_0 (rfl : vwCl[5]? = some (RX6, TX6, 7)) hn hstk hfr hlo hst hd k
theorem gc_L_17 (X : zCx κ G cc (cd :: wsL_law) RL rt rf rl) {As stk : List Value} {r : Int32} {M' : zMem} {F' : Int64} (hM : zCM κ.2.1 yX7_page wX7_page { frames := 1, cells := 0, slots := 0, locals := 22 } κ.2.2.2.2.2.2.2.2.2.2.1 G (.ref (G.1 60) :: As) M F (some (.int r)) M' F') (hn : As.length = 1) (hstk : stk = As.reverse ++ .ref (G.1 60) :: st) (hfr : 2 ≤ rf) (hlo : 45 ≤ rl) (hst : (st.map fun v => v.category).sum ≤ 8) (hd : decode cc pc = .ok (.invokevirtual 17, 3)) (k : zV κ G (pc + 3) lv (.int r :: st) M' F') : zV κ G pc lv stk M F := z_callV (C := RX7) X hM (zgood (zinV (zr_6 _ (List.mem_of_getElem? (i := 17) rfl)) (zr_6 _ (List.mem_of_getElem? (i := 18) rfl)) (zr_6 _ (List.mem_of_getElem? (i := 19) rfl)) (zr_1 _ (List.mem_of_getElem? (i := 5) rfl)) (zr_6 _ (List.mem_of_getElem? (i := 20) rfl)))) rfl ⟨rfl, by decide, by decide, by decide +kernel⟩ zc_60 zl_60 (rfl : vwCl[6]? = some (RX7, TX7, 26)) hn hstk hfr hlo hst hd k
theorem gc_L_18 (X : zCx κ G cc (cd :: wsL_law) RL rt rf rl) {As stk : List Value} {r : Int32} {M' : zMem} {F' : Int64} (hM : zCM κ.2.1 yX6_dot wX6_dot { frames := 3, cells := 0, slots := 0, locals := 64 } κ.2.2.2.2.2.2.2.2.2.2.1 G (.ref (G.1 0) :: As) M F (some (.int r)) M' F') (hn : As.length = 3) (hstk : stk = As.reverse ++ .ref (G.1 0) :: st) (hfr : 4 ≤ rf) (hlo : 88 ≤ rl) (hst : (st.map fun v => v.category).sum ≤ 8) (hd : decode cc pc = .ok (.invokevirtual 18, 3)) (k : zV κ G (pc + 3) lv (.int r :: st) M' F') : zV κ G pc lv stk M F := z_callV (C := RX6) X hM (zgood (zinV (zr_7 _ (List.mem_of_getElem? (i := 5) rfl)) (zr_7 _ (List.mem_of_getElem? (i := 6) rfl)) (zr_7 _ (List.mem_of_getElem? (i := 7) rfl)) (zr_1 _ (List.mem_of_getElem? (i := 2) rfl)) (zr_7 _ (List.mem_of_getElem? (i := 8) rfl)))) rfl ⟨rfl, by decide, by decide, by decide +kernel⟩ zc_0 zl_0 (rfl : vwCl[5]? = some (RX6, TX6, 7)) hn hstk hfr hlo hst hd k
theorem gc_L_22 (X : zCx κ G cc (cd :: wsL_law) RL rt rf rl) {As stk : List Value} {r : Int32} {M' : zMem} {F' : Int64} (hM : zCM κ.2.1 yX7_dot wX7_dot { frames := 2, cells := 0, slots := 0, locals := 43 } κ.2.2.2.2.2.2.2.2.2.2.1 G (.ref (G.1 60) :: As) M F (some (.int r)) M' F') (hn : As.length = 3) (hstk : stk = As.reverse ++ .ref (G.1 60) :: st) (hfr : 3 ≤ rf) (hlo : 67 ≤ rl) (hst : (st.map fun v => v.category).sum ≤ 8) (hd : decode cc pc = .ok (.invokevirtual 22, 3)) (k : zV κ G (pc + 3) lv (.int r :: st) M' F') : zV κ G pc lv stk M F := z_callV (C := RX7) X hM (zgood (zinV (zr_8 _ (List.mem_of_getElem? (i := 6) rfl)) (zr_8 _ (List.mem_of_getElem? (i := 7) rfl)) (zr_8 _ (List.mem_of_getElem? (i := 8) rfl)) (zr_1 _ (List.mem_of_getElem? (i := 5) rfl)) (zr_8 _ (List.mem_of_getElem? (i := 9) rfl)))) rfl ⟨rfl, by decide, by decide, by decide +kernel⟩ zc_60 zl_60 (rfl : vwCl[6]? = some (RX7, TX7, 26)) hn hstk hfr hlo hst hd k
theorem gc_L_23 (X : zCx κ G cc (cd :: wsL_law) RL rt rf rl) {As stk : List Value} {r : Int64} {M' : zMem} {F' : Int64} (hM : zCM κ.2.1 yX6_column wX6_column { frames := 2, cells := 0, slots := 0, locals := 42 } κ.2.2.2.2.2.2.2.2.2.2.1 G (.ref (G.1 0) :: As) M F (some (.long r)) M' F') (hn : As.length = 1) (hstk : stk = As.reverse ++ .ref (G.1 0) :: st) (hfr : 3 ≤ rf) (hlo : 63 ≤ rl) (hst : (st.map fun v => v.category).sum ≤ 8) (hd : decode cc pc = .ok (.invokevirtual 23, 3)) (k : zV κ G (pc + 3) lv (.long r :: st) M' F') : zV κ G pc lv stk M F := z_callV (C := RX6) X hM (zgood (zinV (zr_8 _ (List.mem_of_getElem? (i := 17) rfl)) (zr_8 _ (List.mem_of_getElem? (i := 18) rfl)) (zr_8 _ (List.mem_of_getElem? (i := 19) rfl)) (zr_1 _ (List.mem_of_getElem? (i := 2) rfl)) (zr_8 _ (List.mem_of_getElem? (i := 20) rfl)))) rfl ⟨rfl, by decide, by decide, by decide +kernel⟩ zc_0 zl_0 (rfl : vwCl[5]? = some (RX6, TX6, 7)) hn hstk hfr hlo hst hd k
theorem gc_L_27 (X : zCx κ G cc (cd :: wsL_law) RL rt rf rl) {As stk : List Value} {r : Int64} {M' : zMem} {F' : Int64} (hM : zCM κ.2.1 yX7_column wX7_column { frames := 3, cells := 0, slots := 0, locals := 65 } κ.2.2.2.2.2.2.2.2.2.2.1 G (.ref (G.1 60) :: As) M F (some (.long r)) M' F') (hn : As.length = 1) (hstk : stk = As.reverse ++ .ref (G.1 60) :: st) (hfr : 4 ≤ rf) (hlo : 89 ≤ rl) (hst : (st.map fun v => v.category).sum ≤ 8) (hd : decode cc pc = .ok (.invokevirtual 27, 3)) (k : zV κ G (pc + 3) lv (.long r :: st) M' F') : zV κ G pc lv stk M F := z_callV (C := RX7) X hM (zgood (zinV (zr_9 _ (List.mem_of_getElem? (i := 0) rfl)) (zr_9 _ (List.mem_of_getElem? (i := 1) rfl)) (zr_9 _ (List.mem_of_getElem? (i := 2) rfl)) (zr_1 _ (List.mem_of_getElem? (i := 5) rfl)) (zr_9 _ (List.mem_of_getElem? (i := 3) rfl)))) rfl ⟨rfl, by decide, by decide, by decide +kernel⟩ zc_60 zl_60 (rfl : vwCl[6]? = some (RX7, TX7, 26)) hn hstk hfr hlo hst hd k
theorem gc_L_28 (X : zCx κ G cc (cd :: wsL_law) RL rt rf rl) {As stk : List Value} {r : Int32} {M' : zMem} {F' : Int64} (hM : zCM κ.2.1 yX6_row wX6_row { frames := 4, cells := 0, slots := 0, locals := 87 } κ.2.2.2.2.2.2.2.2.2.2.1 G (.ref (G.1 0) :: As) M F (some (.int r)) M' F') (hn : As.length = 2) (hstk : stk = As.reverse ++ .ref (G.1 0) :: st) (hfr : 5 ≤ rf) (hlo : 111 ≤ rl) (hst : (st.map fun v => v.category).sum ≤ 8) (hd : decode cc pc = .ok (.invokevirtual 28, 3)) (k : zV κ G (pc + 3) lv (.int r :: st) M' F') : zV κ G pc lv stk M F := z_callV (C := RX6) X hM (zgood (zinV (zr_9 _ (List.mem_of_getElem? (i := 10) rfl)) (zr_9 _ (List.mem_of_getElem? (i := 11) rfl)) (zr_9 _ (List.mem_of_getElem? (i := 12) rfl)) (zr_1 _ (List.mem_of_getElem? (i := 2) rfl)) (zr_9 _ (List.mem_of_getElem? (i := 13) rfl)))) rfl ⟨rfl, by decide, by decide, by decide +kernel⟩ zc_0 zl_0 (rfl : vwCl[5]? = some (RX6, TX6, 7)) hn hstk hfr hlo hst hd k
theorem gc_L_32 (X : zCx κ G cc (cd :: wsL_law) RL rt rf rl) {As stk : List Value} {r : Int32} {M' : zMem} {F' : Int64} (hM : zCM κ.2.1 yX7_row wX7_row { frames := 2, cells := 0, slots := 0, locals := 42 } κ.2.2.2.2.2.2.2.2.2.2.1 G (.ref (G.1 60) :: As) M F (some (.int r)) M' F') (hn : As.length = 2) (hstk : stk = As.reverse ++ .ref (G.1 60) :: st) (hfr : 3 ≤ rf) (hlo : 67 ≤ rl) (hst : (st.map fun v => v.category).sum ≤ 8) (hd : decode cc pc = .ok (.invokevirtual 32, 3)) (k : zV κ G (pc + 3) lv (.int r :: st) M' F') : zV κ G pc lv stk M F := z_callV (C := RX7) X hM (zgood (zinV (zr_10 _ (List.mem_of_getElem? (i := 19) rfl)) (zr_10 _ (List.mem_of_getElem? (i := 20) rfl)) (zr_10 _ (List.mem_of_getElem? (i := 21) rfl)) (zr_1 _ (List.mem_of_getElem? (i := 5) rfl)) (zr_10 _ (List.mem_of_getElem? (i := 22) rfl)))) rfl ⟨rfl, by decide, by decide, by decide +kernel⟩ zc_60 zl_60 (rfl : vwCl[6]? = some (RX7, TX7, 26)) hn hstk hfr hlo hst hd k
theorem gc_L_33 (X : zCx κ G cc (cd :: wsL_law) RL rt rf rl) {As stk : List Value} {r : Int32} {M' : zMem} {F' : Int64} (hM : zCM κ.2.1 yX6_take wX6_take { frames := 4, cells := 0, slots := 0, locals := 87 } κ.2.2.2.2.2.2.2.2.2.2.1 G (.ref (G.1 0) :: As) M F (some (.int r)) M' F') (hn : As.length = 2) (hstk : stk = As.reverse ++ .ref (G.1 0) :: st) (hfr : 5 ≤ rf) (hlo : 111 ≤ rl) (hst : (st.map fun v => v.category).sum ≤ 8) (hd : decode cc pc = .ok (.invokevirtual 33, 3)) (k : zV κ G (pc + 3) lv (.int r :: st) M' F') : zV κ G pc lv stk M F := z_callV (C := RX6) X hM (zgood (zinV (zr_11 _ (List.mem_of_getElem? (i := 11) rfl)) (zr_11 _ (List.mem_of_getElem? (i := 12) rfl)) (zr_11 _ (List.mem_of_getElem? (i := 13) rfl)) (zr_1 _ (List.mem_of_getElem? (i := 2) rfl)) (zr_11 _ (List.mem_of_getElem? (i := 14) rfl)))) rfl ⟨rfl, by decide, by decide, by decide +kernel⟩ zc_0 zl_0 (rfl : vwCl[5]? = some (RX6, TX6, 7)) hn hstk hfr hlo hst hd k
theorem gc_L_36 (X : zCx κ G cc (cd :: wsL_law) RL rt rf rl) {As stk : List Value} {r : Int32} {M' : zMem} {F' : Int64} (hM : zCM κ.2.1 yX7_take wX7_take { frames := 3, cells := 0, slots := 0, locals := 65 } κ.2.2.2.2.2.2.2.2.2.2.1 G (.ref (G.1 60) :: As) M F (some (.int r)) M' F') (hn : As.length = 2) (hstk : stk = As.reverse ++ .ref (G.1 60) :: st) (hfr : 4 ≤ rf) (hlo : 89 ≤ rl) (hst : (st.map fun v => v.category).sum ≤ 8) (hd : decode cc pc = .ok (.invokevirtual 36, 3)) (k : zV κ G (pc + 3) lv (.int r :: st) M' F') : zV κ G pc lv stk M F := z_callV (C := RX7) X hM (zgood (zinV (zr_12 _ (List.mem_of_getElem? (i := 6) rfl)) (zr_12 _ (List.mem_of_getElem? (i := 7) rfl)) (zr_12 _ (List.mem_of_getElem? (i := 8) rfl)) (zr_1 _ (List.mem_of_getElem? (i := 5) rfl)) (zr_12 _ (List.mem_of_getElem? (i := 9) rfl)))) rfl ⟨rfl, by decide, by decide, by decide +kernel⟩ zc_60 zl_60 (rfl : vwCl[6]? = some (RX7, TX7, 26)) hn hstk hfr hlo hst hd k
theorem gc_L_37 (X : zCx κ G cc (cd :: wsL_law) RL rt rf rl) {As stk : List Value} {r : Int32} {M' : zMem} {F' : Int64} (hM : zCM κ.2.1 yX6_blank wX6_blank { frames := 2, cells := 0, slots := 0, locals := 46 } κ.2.2.2.2.2.2.2.2.2.2.1 G (.ref (G.1 0) :: As) M F (some (.int r)) M' F') (hn : As.length = 3) (hstk : stk = As.reverse ++ .ref (G.1 0) :: st) (hfr : 3 ≤ rf) (hlo : 69 ≤ rl) (hst : (st.map fun v => v.category).sum ≤ 8) (hd : decode cc pc = .ok (.invokevirtual 37, 3)) (k : zV κ G (pc + 3) lv (.int r :: st) M' F') : zV κ G pc lv stk M F := z_callV (C := RX6) X hM (zgood (zinV (zr_12 _ (List.mem_of_getElem? (i := 14) rfl)) (zr_12 _ (List.mem_of_getElem? (i := 15) rfl)) (zr_12 _ (List.mem_of_getElem? (i := 16) rfl)) (zr_1 _ (List.mem_of_getElem? (i := 2) rfl)) (zr_12 _ (List.mem_of_getElem? (i := 17) rfl)))) rfl ⟨rfl, by decide, by decide, by decide +kernel⟩ zc_0 zl_0 (rfl : vwCl[5]? = some (RX6, TX6, 7)) hn hstk hfr hlo hst hd k
theorem gc_L_40 (X : zCx κ G cc (cd :: wsL_law) RL rt rf rl) {As stk : List Value} {r : Int32} {M' : zMem} {F' : Int64} (hM : zCM κ.2.1 yX7_blank wX7_blank { frames := 2, cells := 0, slots := 0, locals := 42 } κ.2.2.2.2.2.2.2.2.2.2.1 G (.ref (G.1 60) :: As) M F (some (.int r)) M' F') (hn : As.length = 3) (hstk : stk = As.reverse ++ .ref (G.1 60) :: st) (hfr : 3 ≤ rf) (hlo : 65 ≤ rl) (hst : (st.map fun v => v.category).sum ≤ 8) (hd : decode cc pc = .ok (.invokevirtual 40, 3)) (k : zV κ G (pc + 3) lv (.int r :: st) M' F') : zV κ G pc lv stk M F := z_callV (C := RX7) X hM (zgood (zinV (zr_12 _ (List.mem_of_getElem? (i := 18) rfl)) (zr_12 _ (List.mem_of_getElem? (i := 19) rfl)) (zr_12 _ (List.mem_of_getElem? (i := 20) rfl)) (zr_1 _ (List.mem_of_getElem? (i := 5) rfl)) (zr_12 _ (List.mem_of_getElem? (i := 21) rfl)))) rfl ⟨rfl, by decide, by decide, by decide +kernel⟩ zc_60 zl_60 (rfl : vwCl[6]? = some (RX7, TX7, 26)) hn hstk hfr hlo hst hd k
theorem gc_L_41 (X : zCx κ G cc (cd :: wsL_law) RL rt rf rl) {As stk : List Value} {r : Int32} {M' : zMem} {F' : Int64} (hM : zCM κ.2.1 yX6_put wX6_put { frames := 2, cells := 0, slots := 0, locals := 43 } κ.2.2.2.2.2.2.2.2.2.2.1 G (.ref (G.1 0) :: As) M F (some (.int r)) M' F') (hn : As.length = 3) (hstk : stk = As.reverse ++ .ref (G.1 0) :: st) (hfr : 3 ≤ rf) (hlo : 67 ≤ rl) (hst : (st.map fun v => v.category).sum ≤ 8) (hd : decode cc pc = .ok (.invokevirtual 41, 3)) (k : zV κ G (pc + 3) lv (.int r :: st) M' F') : zV κ G pc lv stk M F := z_callV (C := RX6) X hM (zgood (zinV (zr_12 _ (List.mem_of_getElem? (i := 22) rfl)) (zr_12 _ (List.mem_of_getElem? (i := 23) rfl)) (zr_13 _ (List.mem_of_getElem? (i := 0) rfl)) (zr_1 _ (List.mem_of_getElem? (i := 2) rfl)) (zr_13 _ (List.mem_of_getElem? (i := 1) rfl)))) rfl ⟨rfl, by decide, by decide, by decide +kernel⟩ zc_0 zl_0 (rfl : vwCl[5]? = some (RX6, TX6, 7)) hn hstk hfr hlo hst hd k
theorem gc_L_44 (X : zCx κ G cc (cd :: wsL_law) RL rt rf rl) {As stk : List Value} {r : Int32} {M' : zMem} {F' : Int64} (hM : zCM κ.2.1 yX7_put wX7_put { frames := 2, cells := 0, slots := 0, locals := 44 } κ.2.2.2.2.2.2.2.2.2.2.1 G (.ref (G.1 60) :: As) M F (some (.int r)) M' F') (hn : As.length = 3) (hstk : stk = As.reverse ++ .ref (G.1 60) :: st) (hfr : 3 ≤ rf) (hlo : 68 ≤ rl) (hst : (st.map fun v => v.category).sum ≤ 8) (hd : decode cc pc = .ok (.invokevirtual 44, 3)) (k : zV κ G (pc + 3) lv (.int r :: st) M' F') : zV κ G pc lv stk M F := z_callV (C := RX7) X hM (zgood (zinV (zr_13 _ (List.mem_of_getElem? (i := 7) rfl)) (zr_13 _ (List.mem_of_getElem? (i := 8) rfl)) (zr_13 _ (List.mem_of_getElem? (i := 9) rfl)) (zr_1 _ (List.mem_of_getElem? (i := 5) rfl)) (zr_13 _ (List.mem_of_getElem? (i := 10) rfl)))) rfl ⟨rfl, by decide, by decide, by decide +kernel⟩ zc_60 zl_60 (rfl : vwCl[6]? = some (RX7, TX7, 26)) hn hstk hfr hlo hst hd k
theorem gc_L_45 (X : zCx κ G cc (cd :: wsL_law) RL rt rf rl) {As stk : List Value} {r : Int64} {M' : zMem} {F' : Int64} (hM : zCM κ.2.1 yX6_get wX6_get { frames := 2, cells := 0, slots := 0, locals := 42 } κ.2.2.2.2.2.2.2.2.2.2.1 G (.ref (G.1 0) :: As) M F (some (.long r)) M' F') (hn : As.length = 2) (hstk : stk = As.reverse ++ .ref (G.1 0) :: st) (hfr : 3 ≤ rf) (hlo : 64 ≤ rl) (hst : (st.map fun v => v.category).sum ≤ 8) (hd : decode cc pc = .ok (.invokevirtual 45, 3)) (k : zV κ G (pc + 3) lv (.long r :: st) M' F') : zV κ G pc lv stk M F := z_callV (C := RX6) X hM (zgood (zinV (zr_13 _ (List.mem_of_getElem? (i := 19) rfl)) (zr_13 _ (List.mem_of_getElem? (i := 20) rfl)) (zr_13 _ (List.mem_of_getElem? (i := 21) rfl)) (zr_1 _ (List.mem_of_getElem? (i := 2) rfl)) (zr_13 _ (List.mem_of_getElem? (i := 22) rfl)))) rfl ⟨rfl, by decide, by decide, by decide +kernel⟩ zc_0 zl_0 (rfl : vwCl[5]? = some (RX6, TX6, 7)) hn hstk hfr hlo hst hd k
theorem gc_L_49 (X : zCx κ G cc (cd :: wsL_law) RL rt rf rl) {As stk : List Value} {r : Int64} {M' : zMem} {F' : Int64} (hM : zCM κ.2.1 yX7_get wX7_get { frames := 2, cells := 0, slots := 0, locals := 44 } κ.2.2.2.2.2.2.2.2.2.2.1 G (.ref (G.1 60) :: As) M F (some (.long r)) M' F') (hn : As.length = 2) (hstk : stk = As.reverse ++ .ref (G.1 60) :: st) (hfr : 3 ≤ rf) (hlo : 66 ≤ rl) (hst : (st.map fun v => v.category).sum ≤ 8) (hd : decode cc pc = .ok (.invokevirtual 49, 3)) (k : zV κ G (pc + 3) lv (.long r :: st) M' F') : zV κ G pc lv stk M F := z_callV (C := RX7) X hM (zgood (zinV (zr_13 _ (List.mem_of_getElem? (i := 23) rfl)) (zr_14 _ (List.mem_of_getElem? (i := 0) rfl)) (zr_14 _ (List.mem_of_getElem? (i := 1) rfl)) (zr_1 _ (List.mem_of_getElem? (i := 5) rfl)) (zr_14 _ (List.mem_of_getElem? (i := 2) rfl)))) rfl ⟨rfl, by decide, by decide, by decide +kernel⟩ zc_60 zl_60 (rfl : vwCl[6]? = some (RX7, TX7, 26)) hn hstk hfr hlo hst hd k
theorem gc_L_50 (X : zCx κ G cc (cd :: wsL_law) RL rt rf rl) {As stk : List Value} {r : Int32} {M' : zMem} {F' : Int64} (hM : zCM κ.2.1 yX6_copy wX6_copy { frames := 2, cells := 0, slots := 0, locals := 64 } κ.2.2.2.2.2.2.2.2.2.2.1 G (.ref (G.1 0) :: As) M F (some (.int r)) M' F') (hn : As.length = 5) (hstk : stk = As.reverse ++ .ref (G.1 0) :: st) (hfr : 3 ≤ rf) (hlo : 90 ≤ rl) (hst : (st.map fun v => v.category).sum ≤ 8) (hd : decode cc pc = .ok (.invokevirtual 50, 3)) (k : zV κ G (pc + 3) lv (.int r :: st) M' F') : zV κ G pc lv stk M F := z_callV (C := RX6) X hM (zgood (zinV (zr_14 _ (List.mem_of_getElem? (i := 3) rfl)) (zr_14 _ (List.mem_of_getElem? (i := 4) rfl)) (zr_14 _ (List.mem_of_getElem? (i := 5) rfl)) (zr_1 _ (List.mem_of_getElem? (i := 2) rfl)) (zr_14 _ (List.mem_of_getElem? (i := 6) rfl)))) rfl ⟨rfl, by decide, by decide, by decide +kernel⟩ zc_0 zl_0 (rfl : vwCl[5]? = some (RX6, TX6, 7)) hn hstk hfr hlo hst hd k
theorem gc_L_54 (X : zCx κ G cc (cd :: wsL_law) RL rt rf rl) {As stk : List Value} {r : Int32} {M' : zMem} {F' : Int64} (hM : zCM κ.2.1 yX7_copy wX7_copy { frames := 2, cells := 0, slots := 0, locals := 42 } κ.2.2.2.2.2.2.2.2.2.2.1 G (.ref (G.1 60) :: As) M F (some (.int r)) M' F') (hn : As.length = 5) (hstk : stk = As.reverse ++ .ref (G.1 60) :: st) (hfr : 3 ≤ rf) (hlo : 69 ≤ rl) (hst : (st.map fun v => v.category).sum ≤ 8) (hd : decode cc pc = .ok (.invokevirtual 54, 3)) (k : zV κ G (pc + 3) lv (.int r :: st) M' F') : zV κ G pc lv stk M F := z_callV (C := RX7) X hM (zgood (zinV (zr_14 _ (List.mem_of_getElem? (i := 23) rfl)) (zr_15 _ (List.mem_of_getElem? (i := 0) rfl)) (zr_15 _ (List.mem_of_getElem? (i := 1) rfl)) (zr_1 _ (List.mem_of_getElem? (i := 5) rfl)) (zr_15 _ (List.mem_of_getElem? (i := 2) rfl)))) rfl ⟨rfl, by decide, by decide, by decide +kernel⟩ zc_60 zl_60 (rfl : vwCl[6]? = some (RX7, TX7, 26)) hn hstk hfr hlo hst hd k
theorem gc_L_55 (X : zCx κ G cc (cd :: wsL_law) RL rt rf rl) {As stk : List Value} {r : Int32} {M' : zMem} {F' : Int64} (hM : zCM κ.2.1 yX6_lose wX6_lose { frames := 1, cells := 0, slots := 0, locals := 20 } κ.2.2.2.2.2.2.2.2.2.2.1 G (.ref (G.1 0) :: As) M F (some (.int r)) M' F') (hn : As.length = 1) (hstk : stk = As.reverse ++ .ref (G.1 0) :: st) (hfr : 2 ≤ rf) (hlo : 42 ≤ rl) (hst : (st.map fun v => v.category).sum ≤ 8) (hd : decode cc pc = .ok (.invokevirtual 55, 3)) (k : zV κ G (pc + 3) lv (.int r :: st) M' F') : zV κ G pc lv stk M F := z_callV (C := RX6) X hM (zgood (zinV (zr_15 _ (List.mem_of_getElem? (i := 3) rfl)) (zr_15 _ (List.mem_of_getElem? (i := 4) rfl)) (zr_15 _ (List.mem_of_getElem? (i := 5) rfl)) (zr_1 _ (List.mem_of_getElem? (i := 2) rfl)) (zr_15 _ (List.mem_of_getElem? (i := 6) rfl)))) rfl ⟨rfl, by decide, by decide, by decide +kernel⟩ zc_0 zl_0 (rfl : vwCl[5]? = some (RX6, TX6, 7)) hn hstk hfr hlo hst hd k
theorem gc_L_58 (X : zCx κ G cc (cd :: wsL_law) RL rt rf rl) {As stk : List Value} {r : Int32} {M' : zMem} {F' : Int64} (hM : zCM κ.2.1 yX7_lose wX7_lose { frames := 2, cells := 0, slots := 0, locals := 42 } κ.2.2.2.2.2.2.2.2.2.2.1 G (.ref (G.1 60) :: As) M F (some (.int r)) M' F') (hn : As.length = 1) (hstk : stk = As.reverse ++ .ref (G.1 60) :: st) (hfr : 3 ≤ rf) (hlo : 64 ≤ rl) (hst : (st.map fun v => v.category).sum ≤ 8) (hd : decode cc pc = .ok (.invokevirtual 58, 3)) (k : zV κ G (pc + 3) lv (.int r :: st) M' F') : zV κ G pc lv stk M F := z_callV (C := RX7) X hM (zgood (zinV (zr_15 _ (List.mem_of_getElem? (i := 11) rfl)) (zr_15 _ (List.mem_of_getElem? (i := 12) rfl)) (zr_15 _ (List.mem_of_getElem? (i := 13) rfl)) (zr_1 _ (List.mem_of_getElem? (i := 5) rfl)) (zr_15 _ (List.mem_of_getElem? (i := 14) rfl)))) rfl ⟨rfl, by decide, by decide, by decide +kernel⟩ zc_60 zl_60 (rfl : vwCl[6]? = some (RX7, TX7, 26)) hn hstk hfr hlo hst hd k
theorem gc_L_59 (X : zCx κ G cc (cd :: wsL_law) RL rt rf rl) {As stk : List Value} {r : Int32} {M' : zMem} {F' : Int64} (hM : zCM κ.2.1 yX6_shift wX6_shift { frames := 2, cells := 0, slots := 0, locals := 45 } κ.2.2.2.2.2.2.2.2.2.2.1 G (.ref (G.1 0) :: As) M F (some (.int r)) M' F') (hn : As.length = 3) (hstk : stk = As.reverse ++ .ref (G.1 0) :: st) (hfr : 3 ≤ rf) (hlo : 69 ≤ rl) (hst : (st.map fun v => v.category).sum ≤ 8) (hd : decode cc pc = .ok (.invokevirtual 59, 3)) (k : zV κ G (pc + 3) lv (.int r :: st) M' F') : zV κ G pc lv stk M F := z_callV (C := RX6) X hM (zgood (zinV (zr_15 _ (List.mem_of_getElem? (i := 15) rfl)) (zr_15 _ (List.mem_of_getElem? (i := 16) rfl)) (zr_15 _ (List.mem_of_getElem? (i := 17) rfl)) (zr_1 _ (List.mem_of_getElem? (i := 2) rfl)) (zr_15 _ (List.mem_of_getElem? (i := 18) rfl)))) rfl ⟨rfl, by decide, by decide, by decide +kernel⟩ zc_0 zl_0 (rfl : vwCl[5]? = some (RX6, TX6, 7)) hn hstk hfr hlo hst hd k
theorem gc_L_62 (X : zCx κ G cc (cd :: wsL_law) RL rt rf rl) {As stk : List Value} {r : Int32} {M' : zMem} {F' : Int64} (hM : zCM κ.2.1 yX7_shift wX7_shift { frames := 3, cells := 0, slots := 0, locals := 64 } κ.2.2.2.2.2.2.2.2.2.2.1 G (.ref (G.1 60) :: As) M F (some (.int r)) M' F') (hn : As.length = 3) (hstk : stk = As.reverse ++ .ref (G.1 60) :: st) (hfr : 4 ≤ rf) (hlo : 88 ≤ rl) (hst : (st.map fun v => v.category).sum ≤ 8) (hd : decode cc pc = .ok (.invokevirtual 62, 3)) (k : zV κ G (pc + 3) lv (.int r :: st) M' F') : zV κ G pc lv stk M F := z_callV (C := RX7) X hM (zgood (zinV (zr_16 _ (List.mem_of_getElem? (i := 8) rfl)) (zr_16 _ (List.mem_of_getElem? (i := 9) rfl)) (zr_16 _ (List.mem_of_getElem? (i := 10) rfl)) (zr_1 _ (List.mem_of_getElem? (i := 5) rfl)) (zr_16 _ (List.mem_of_getElem? (i := 11) rfl)))) rfl ⟨rfl, by decide, by decide, by decide +kernel⟩ zc_60 zl_60 (rfl : vwCl[6]? = some (RX7, TX7, 26)) hn hstk hfr hlo hst hd k
theorem gc_L_63 (X : zCx κ G cc (cd :: wsL_law) RL rt rf rl) {As stk : List Value} {r : Int32} {M' : zMem} {F' : Int64} (hM : zCM κ.2.1 yX6_profile wX6_profile { frames := 4, cells := 0, slots := 0, locals := 95 } κ.2.2.2.2.2.2.2.2.2.2.1 G (.ref (G.1 0) :: As) M F (some (.int r)) M' F') (hn : As.length = 3) (hstk : stk = As.reverse ++ .ref (G.1 0) :: st) (hfr : 5 ≤ rf) (hlo : 118 ≤ rl) (hst : (st.map fun v => v.category).sum ≤ 8) (hd : decode cc pc = .ok (.invokevirtual 63, 3)) (k : zV κ G (pc + 3) lv (.int r :: st) M' F') : zV κ G pc lv stk M F := z_callV (C := RX6) X hM (zgood (zinV (zr_17 _ (List.mem_of_getElem? (i := 3) rfl)) (zr_17 _ (List.mem_of_getElem? (i := 4) rfl)) (zr_17 _ (List.mem_of_getElem? (i := 5) rfl)) (zr_1 _ (List.mem_of_getElem? (i := 2) rfl)) (zr_17 _ (List.mem_of_getElem? (i := 6) rfl)))) rfl ⟨rfl, by decide, by decide, by decide +kernel⟩ zc_0 zl_0 (rfl : vwCl[5]? = some (RX6, TX6, 7)) hn hstk hfr hlo hst hd k
theorem gc_L_66 (X : zCx κ G cc (cd :: wsL_law) RL rt rf rl) {As stk : List Value} {r : Int32} {M' : zMem} {F' : Int64} (hM : zCM κ.2.1 yX7_profile wX7_profile { frames := 5, cells := 0, slots := 0, locals := 111 } κ.2.2.2.2.2.2.2.2.2.2.1 G (.ref (G.1 60) :: As) M F (some (.int r)) M' F') (hn : As.length = 3) (hstk : stk = As.reverse ++ .ref (G.1 60) :: st) (hfr : 6 ≤ rf) (hlo : 134 ≤ rl) (hst : (st.map fun v => v.category).sum ≤ 8) (hd : decode cc pc = .ok (.invokevirtual 66, 3)) (k : zV κ G (pc + 3) lv (.int r :: st) M' F') : zV κ G pc lv stk M F := z_callV (C := RX7) X hM (zgood (zinV (zr_17 _ (List.mem_of_getElem? (i := 22) rfl)) (zr_17 _ (List.mem_of_getElem? (i := 23) rfl)) (zr_18 _ (List.mem_of_getElem? (i := 0) rfl)) (zr_1 _ (List.mem_of_getElem? (i := 5) rfl)) (zr_18 _ (List.mem_of_getElem? (i := 1) rfl)))) rfl ⟨rfl, by decide, by decide, by decide +kernel⟩ zc_60 zl_60 (rfl : vwCl[6]? = some (RX7, TX7, 26)) hn hstk hfr hlo hst hd k
theorem gc_L_67 (X : zCx κ G cc (cd :: wsL_law) RL rt rf rl) {As stk : List Value} {r : Int32} {M' : zMem} {F' : Int64} (hM : zCM κ.2.1 yX6_sharp wX6_sharp { frames := 4, cells := 0, slots := 0, locals := 100 } κ.2.2.2.2.2.2.2.2.2.2.1 G (.ref (G.1 0) :: As) M F (some (.int r)) M' F') (hn : As.length = 2) (hstk : stk = As.reverse ++ .ref (G.1 0) :: st) (hfr : 5 ≤ rf) (hlo : 122 ≤ rl) (hst : (st.map fun v => v.category).sum ≤ 8) (hd : decode cc pc = .ok (.invokevirtual 67, 3)) (k : zV κ G (pc + 3) lv (.int r :: st) M' F') : zV κ G pc lv stk M F := z_callV (C := RX6) X hM (zgood (zinV (zr_18 _ (List.mem_of_getElem? (i := 9) rfl)) (zr_18 _ (List.mem_of_getElem? (i := 10) rfl)) (zr_18 _ (List.mem_of_getElem? (i := 11) rfl)) (zr_1 _ (List.mem_of_getElem? (i := 2) rfl)) (zr_18 _ (List.mem_of_getElem? (i := 12) rfl)))) rfl ⟨rfl, by decide, by decide, by decide +kernel⟩ zc_0 zl_0 (rfl : vwCl[5]? = some (RX6, TX6, 7)) hn hstk hfr hlo hst hd k
theorem gc_L_70 (X : zCx κ G cc (cd :: wsL_law) RL rt rf rl) {As stk : List Value} {r : Int32} {M' : zMem} {F' : Int64} (hM : zCM κ.2.1 yX7_sharp wX7_sharp { frames := 6, cells := 0, slots := 0, locals := 136 } κ.2.2.2.2.2.2.2.2.2.2.1 G (.ref (G.1 60) :: As) M F (some (.int r)) M' F') (hn : As.length = 2) (hstk : stk = As.reverse ++ .ref (G.1 60) :: st) (hfr : 7 ≤ rf) (hlo : 158 ≤ rl) (hst : (st.map fun v => v.category).sum ≤ 8) (hd : decode cc pc = .ok (.invokevirtual 70, 3)) (k : zV κ G (pc + 3) lv (.int r :: st) M' F') : zV κ G pc lv stk M F := z_callV (C := RX7) X hM (zgood (zinV (zr_18 _ (List.mem_of_getElem? (i := 17) rfl)) (zr_18 _ (List.mem_of_getElem? (i := 18) rfl)) (zr_18 _ (List.mem_of_getElem? (i := 19) rfl)) (zr_1 _ (List.mem_of_getElem? (i := 5) rfl)) (zr_18 _ (List.mem_of_getElem? (i := 20) rfl)))) rfl ⟨rfl, by decide, by decide, by decide +kernel⟩ zc_60 zl_60 (rfl : vwCl[6]? = some (RX7, TX7, 26)) hn hstk hfr hlo hst hd k
theorem gc_L_71 (X : zCx κ G cc (cd :: wsL_law) RL rt rf rl) {As stk : List Value} {r : Int32} {M' : zMem} {F' : Int64} (hM : zCM κ.2.1 yX6_best wX6_best { frames := 6, cells := 0, slots := 0, locals := 147 } κ.2.2.2.2.2.2.2.2.2.2.1 G (.ref (G.1 0) :: As) M F (some (.int r)) M' F') (hn : As.length = 1) (hstk : stk = As.reverse ++ .ref (G.1 0) :: st) (hfr : 7 ≤ rf) (hlo : 168 ≤ rl) (hst : (st.map fun v => v.category).sum ≤ 8) (hd : decode cc pc = .ok (.invokevirtual 71, 3)) (k : zV κ G (pc + 3) lv (.int r :: st) M' F') : zV κ G pc lv stk M F := z_callV (C := RX6) X hM (zgood (zinV (zr_19 _ (List.mem_of_getElem? (i := 1) rfl)) (zr_19 _ (List.mem_of_getElem? (i := 2) rfl)) (zr_19 _ (List.mem_of_getElem? (i := 3) rfl)) (zr_1 _ (List.mem_of_getElem? (i := 2) rfl)) (zr_19 _ (List.mem_of_getElem? (i := 4) rfl)))) rfl ⟨rfl, by decide, by decide, by decide +kernel⟩ zc_0 zl_0 (rfl : vwCl[5]? = some (RX6, TX6, 7)) hn hstk hfr hlo hst hd k
theorem gc_L_74 (X : zCx κ G cc (cd :: wsL_law) RL rt rf rl) {As stk : List Value} {r : Int32} {M' : zMem} {F' : Int64} (hM : zCM κ.2.1 yX7_best wX7_best { frames := 7, cells := 0, slots := 0, locals := 160 } κ.2.2.2.2.2.2.2.2.2.2.1 G (.ref (G.1 60) :: As) M F (some (.int r)) M' F') (hn : As.length = 1) (hstk : stk = As.reverse ++ .ref (G.1 60) :: st) (hfr : 8 ≤ rf) (hlo : 182 ≤ rl) (hst : (st.map fun v => v.category).sum ≤ 8) (hd : decode cc pc = .ok (.invokevirtual 74, 3)) (k : zV κ G (pc + 3) lv (.int r :: st) M' F') : zV κ G pc lv stk M F := z_callV (C := RX7) X hM (zgood (zinV (zr_20 _ (List.mem_of_getElem? (i := 5) rfl)) (zr_20 _ (List.mem_of_getElem? (i := 6) rfl)) (zr_20 _ (List.mem_of_getElem? (i := 7) rfl)) (zr_1 _ (List.mem_of_getElem? (i := 5) rfl)) (zr_20 _ (List.mem_of_getElem? (i := 8) rfl)))) rfl ⟨rfl, by decide, by decide, by decide +kernel⟩ zc_60 zl_60 (rfl : vwCl[6]? = some (RX7, TX7, 26)) hn hstk hfr hlo hst hd k
theorem gc_L_75 (X : zCx κ G cc (cd :: wsL_law) RL rt rf rl) {As stk : List Value} {r : Int32} {M' : zMem} {F' : Int64} (hM : zCM κ.2.1 yX6_found wX6_found { frames := 6, cells := 0, slots := 0, locals := 148 } κ.2.2.2.2.2.2.2.2.2.2.1 G (.ref (G.1 0) :: As) M F (some (.int r)) M' F') (hn : As.length = 1) (hstk : stk = As.reverse ++ .ref (G.1 0) :: st) (hfr : 7 ≤ rf) (hlo : 169 ≤ rl) (hst : (st.map fun v => v.category).sum ≤ 8) (hd : decode cc pc = .ok (.invokevirtual 75, 3)) (k : zV κ G (pc + 3) lv (.int r :: st) M' F') : zV κ G pc lv stk M F := z_callV (C := RX6) X hM (zgood (zinV (zr_21 _ (List.mem_of_getElem? (i := 0) rfl)) (zr_21 _ (List.mem_of_getElem? (i := 1) rfl)) (zr_21 _ (List.mem_of_getElem? (i := 2) rfl)) (zr_1 _ (List.mem_of_getElem? (i := 2) rfl)) (zr_21 _ (List.mem_of_getElem? (i := 3) rfl)))) rfl ⟨rfl, by decide, by decide, by decide +kernel⟩ zc_0 zl_0 (rfl : vwCl[5]? = some (RX6, TX6, 7)) hn hstk hfr hlo hst hd k
theorem gc_L_78 (X : zCx κ G cc (cd :: wsL_law) RL rt rf rl) {As stk : List Value} {r : Int32} {M' : zMem} {F' : Int64} (hM : zCM κ.2.1 yX7_found wX7_found { frames := 8, cells := 0, slots := 0, locals := 183 } κ.2.2.2.2.2.2.2.2.2.2.1 G (.ref (G.1 60) :: As) M F (some (.int r)) M' F') (hn : As.length = 1) (hstk : stk = As.reverse ++ .ref (G.1 60) :: st) (hfr : 9 ≤ rf) (hlo : 204 ≤ rl) (hst : (st.map fun v => v.category).sum ≤ 8) (hd : decode cc pc = .ok (.invokevirtual 78, 3)) (k : zV κ G (pc + 3) lv (.int r :: st) M' F') : zV κ G pc lv stk M F := z_callV (C := RX7) X hM (zgood (zinV (zr_21 _ (List.mem_of_getElem? (i := 8) rfl)) (zr_21 _ (List.mem_of_getElem? (i := 9) rfl)) (zr_21 _ (List.mem_of_getElem? (i := 10) rfl)) (zr_1 _ (List.mem_of_getElem? (i := 5) rfl)) (zr_21 _ (List.mem_of_getElem? (i := 11) rfl)))) rfl ⟨rfl, by decide, by decide, by decide +kernel⟩ zc_60 zl_60 (rfl : vwCl[6]? = some (RX7, TX7, 26)) hn hstk hfr hlo hst hd k
theorem gc_L_79 (X : zCx κ G cc (cd :: wsL_law) RL rt rf rl) {As stk : List Value} {r : Int32} {M' : zMem} {F' : Int64} (hM : zCM κ.2.1 yX6_tried wX6_tried { frames := 6, cells := 0, slots := 0, locals := 148 } κ.2.2.2.2.2.2.2.2.2.2.1 G (.ref (G.1 0) :: As) M F (some (.int r)) M' F') (hn : As.length = 2) (hstk : stk = As.reverse ++ .ref (G.1 0) :: st) (hfr : 7 ≤ rf) (hlo : 170 ≤ rl) (hst : (st.map fun v => v.category).sum ≤ 8) (hd : decode cc pc = .ok (.invokevirtual 79, 3)) (k : zV κ G (pc + 3) lv (.int r :: st) M' F') : zV κ G pc lv stk M F := z_callV (C := RX6) X hM (zgood (zinV (zr_21 _ (List.mem_of_getElem? (i := 16) rfl)) (zr_21 _ (List.mem_of_getElem? (i := 17) rfl)) (zr_21 _ (List.mem_of_getElem? (i := 18) rfl)) (zr_1 _ (List.mem_of_getElem? (i := 2) rfl)) (zr_21 _ (List.mem_of_getElem? (i := 19) rfl)))) rfl ⟨rfl, by decide, by decide, by decide +kernel⟩ zc_0 zl_0 (rfl : vwCl[5]? = some (RX6, TX6, 7)) hn hstk hfr hlo hst hd k
theorem gc_L_82 (X : zCx κ G cc (cd :: wsL_law) RL rt rf rl) {As stk : List Value} {r : Int32} {M' : zMem} {F' : Int64} (hM : zCM κ.2.1 yX7_tried wX7_tried { frames := 8, cells := 0, slots := 0, locals := 183 } κ.2.2.2.2.2.2.2.2.2.2.1 G (.ref (G.1 60) :: As) M F (some (.int r)) M' F') (hn : As.length = 2) (hstk : stk = As.reverse ++ .ref (G.1 60) :: st) (hfr : 9 ≤ rf) (hlo : 205 ≤ rl) (hst : (st.map fun v => v.category).sum ≤ 8) (hd : decode cc pc = .ok (.invokevirtual 82, 3)) (k : zV κ G (pc + 3) lv (.int r :: st) M' F') : zV κ G pc lv stk M F := z_callV (C := RX7) X hM (zgood (zinV (zr_22 _ (List.mem_of_getElem? (i := 4) rfl)) (zr_22 _ (List.mem_of_getElem? (i := 5) rfl)) (zr_22 _ (List.mem_of_getElem? (i := 6) rfl)) (zr_1 _ (List.mem_of_getElem? (i := 5) rfl)) (zr_22 _ (List.mem_of_getElem? (i := 7) rfl)))) rfl ⟨rfl, by decide, by decide, by decide +kernel⟩ zc_60 zl_60 (rfl : vwCl[6]? = some (RX7, TX7, 26)) hn hstk hfr hlo hst hd k
theorem gc_L_83 (X : zCx κ G cc (cd :: wsL_law) RL rt rf rl) {As stk : List Value} {r : Int32} {M' : zMem} {F' : Int64} (hM : zCM κ.2.1 yX6_shear wX6_shear { frames := 4, cells := 0, slots := 0, locals := 89 } κ.2.2.2.2.2.2.2.2.2.2.1 G (.ref (G.1 0) :: As) M F (some (.int r)) M' F') (hn : As.length = 2) (hstk : stk = As.reverse ++ .ref (G.1 0) :: st) (hfr : 5 ≤ rf) (hlo : 113 ≤ rl) (hst : (st.map fun v => v.category).sum ≤ 8) (hd : decode cc pc = .ok (.invokevirtual 83, 3)) (k : zV κ G (pc + 3) lv (.int r :: st) M' F') : zV κ G pc lv stk M F := z_callV (C := RX6) X hM (zgood (zinV (zr_22 _ (List.mem_of_getElem? (i := 8) rfl)) (zr_22 _ (List.mem_of_getElem? (i := 9) rfl)) (zr_22 _ (List.mem_of_getElem? (i := 10) rfl)) (zr_1 _ (List.mem_of_getElem? (i := 2) rfl)) (zr_22 _ (List.mem_of_getElem? (i := 11) rfl)))) rfl ⟨rfl, by decide, by decide, by decide +kernel⟩ zc_0 zl_0 (rfl : vwCl[5]? = some (RX6, TX6, 7)) hn hstk hfr hlo hst hd k
theorem gc_L_86 (X : zCx κ G cc (cd :: wsL_law) RL rt rf rl) {As stk : List Value} {r : Int32} {M' : zMem} {F' : Int64} (hM : zCM κ.2.1 yX7_shear wX7_shear { frames := 6, cells := 0, slots := 0, locals := 138 } κ.2.2.2.2.2.2.2.2.2.2.1 G (.ref (G.1 60) :: As) M F (some (.int r)) M' F') (hn : As.length = 2) (hstk : stk = As.reverse ++ .ref (G.1 60) :: st) (hfr : 7 ≤ rf) (hlo : 160 ≤ rl) (hst : (st.map fun v => v.category).sum ≤ 8) (hd : decode cc pc = .ok (.invokevirtual 86, 3)) (k : zV κ G (pc + 3) lv (.int r :: st) M' F') : zV κ G pc lv stk M F := z_callV (C := RX7) X hM (zgood (zinV (zr_23 _ (List.mem_of_getElem? (i := 4) rfl)) (zr_23 _ (List.mem_of_getElem? (i := 5) rfl)) (zr_23 _ (List.mem_of_getElem? (i := 6) rfl)) (zr_1 _ (List.mem_of_getElem? (i := 5) rfl)) (zr_23 _ (List.mem_of_getElem? (i := 7) rfl)))) rfl ⟨rfl, by decide, by decide, by decide +kernel⟩ zc_60 zl_60 (rfl : vwCl[6]? = some (RX7, TX7, 26)) hn hstk hfr hlo hst hd k
theorem gc_L_87 (X : zCx κ G cc (cd :: wsL_law) RL rt rf rl) {As stk : List Value} {r : Int32} {M' : zMem} {F' : Int64} (hM : zCM κ.2.1 yX6_run wX6_run { frames := 5, cells := 0, slots := 0, locals := 113 } κ.2.2.2.2.2.2.2.2.2.2.1 G (.ref (G.1 0) :: As) M F (some (.int r)) M' F') (hn : As.length = 2) (hstk : stk = As.reverse ++ .ref (G.1 0) :: st) (hfr : 6 ≤ rf) (hlo : 135 ≤ rl) (hst : (st.map fun v => v.category).sum ≤ 8) (hd : decode cc pc = .ok (.invokevirtual 87, 3)) (k : zV κ G (pc + 3) lv (.int r :: st) M' F') : zV κ G pc lv stk M F := z_callV (C := RX6) X hM (zgood (zinV (zr_24 _ (List.mem_of_getElem? (i := 0) rfl)) (zr_24 _ (List.mem_of_getElem? (i := 1) rfl)) (zr_24 _ (List.mem_of_getElem? (i := 2) rfl)) (zr_1 _ (List.mem_of_getElem? (i := 2) rfl)) (zr_24 _ (List.mem_of_getElem? (i := 3) rfl)))) rfl ⟨rfl, by decide, by decide, by decide +kernel⟩ zc_0 zl_0 (rfl : vwCl[5]? = some (RX6, TX6, 7)) hn hstk hfr hlo hst hd k
theorem gc_L_90 (X : zCx κ G cc (cd :: wsL_law) RL rt rf rl) {As stk : List Value} {r : Int32} {M' : zMem} {F' : Int64} (hM : zCM κ.2.1 yX7_run wX7_run { frames := 5, cells := 0, slots := 0, locals := 108 } κ.2.2.2.2.2.2.2.2.2.2.1 G (.ref (G.1 60) :: As) M F (some (.int r)) M' F') (hn : As.length = 2) (hstk : stk = As.reverse ++ .ref (G.1 60) :: st) (hfr : 6 ≤ rf) (hlo : 130 ≤ rl) (hst : (st.map fun v => v.category).sum ≤ 8) (hd : decode cc pc = .ok (.invokevirtual 90, 3)) (k : zV κ G (pc + 3) lv (.int r :: st) M' F') : zV κ G pc lv stk M F := z_callV (C := RX7) X hM (zgood (zinV (zr_26 _ (List.mem_of_getElem? (i := 8) rfl)) (zr_26 _ (List.mem_of_getElem? (i := 9) rfl)) (zr_26 _ (List.mem_of_getElem? (i := 10) rfl)) (zr_1 _ (List.mem_of_getElem? (i := 5) rfl)) (zr_26 _ (List.mem_of_getElem? (i := 11) rfl)))) rfl ⟨rfl, by decide, by decide, by decide +kernel⟩ zc_60 zl_60 (rfl : vwCl[6]? = some (RX7, TX7, 26)) hn hstk hfr hlo hst hd k
theorem gc_L_91 (X : zCx κ G cc (cd :: wsL_law) RL rt rf rl) {As stk : List Value} {r : Int32} {M' : zMem} {F' : Int64} (hM : zCM κ.2.1 yX6_stroke wX6_stroke { frames := 5, cells := 0, slots := 0, locals := 113 } κ.2.2.2.2.2.2.2.2.2.2.1 G (.ref (G.1 0) :: As) M F (some (.int r)) M' F') (hn : As.length = 2) (hstk : stk = As.reverse ++ .ref (G.1 0) :: st) (hfr : 6 ≤ rf) (hlo : 135 ≤ rl) (hst : (st.map fun v => v.category).sum ≤ 8) (hd : decode cc pc = .ok (.invokevirtual 91, 3)) (k : zV κ G (pc + 3) lv (.int r :: st) M' F') : zV κ G pc lv stk M F := z_callV (C := RX6) X hM (zgood (zinV (zr_27 _ (List.mem_of_getElem? (i := 6) rfl)) (zr_27 _ (List.mem_of_getElem? (i := 7) rfl)) (zr_27 _ (List.mem_of_getElem? (i := 8) rfl)) (zr_1 _ (List.mem_of_getElem? (i := 2) rfl)) (zr_27 _ (List.mem_of_getElem? (i := 9) rfl)))) rfl ⟨rfl, by decide, by decide, by decide +kernel⟩ zc_0 zl_0 (rfl : vwCl[5]? = some (RX6, TX6, 7)) hn hstk hfr hlo hst hd k
theorem gc_L_94 (X : zCx κ G cc (cd :: wsL_law) RL rt rf rl) {As stk : List Value} {r : Int32} {M' : zMem} {F' : Int64} (hM : zCM κ.2.1 yX7_stroke wX7_stroke { frames := 5, cells := 0, slots := 0, locals := 108 } κ.2.2.2.2.2.2.2.2.2.2.1 G (.ref (G.1 60) :: As) M F (some (.int r)) M' F') (hn : As.length = 2) (hstk : stk = As.reverse ++ .ref (G.1 60) :: st) (hfr : 6 ≤ rf) (hlo : 138 ≤ rl) (hst : (st.map fun v => v.category).sum ≤ 8) (hd : decode cc pc = .ok (.invokevirtual 94, 3)) (k : zV κ G (pc + 3) lv (.int r :: st) M' F') : zV κ G pc lv stk M F := z_callV (C := RX7) X hM (zgood (zinV (zr_28 _ (List.mem_of_getElem? (i := 23) rfl)) (zr_29 _ (List.mem_of_getElem? (i := 0) rfl)) (zr_29 _ (List.mem_of_getElem? (i := 1) rfl)) (zr_1 _ (List.mem_of_getElem? (i := 5) rfl)) (zr_29 _ (List.mem_of_getElem? (i := 2) rfl)))) rfl ⟨rfl, by decide, by decide, by decide +kernel⟩ zc_60 zl_60 (rfl : vwCl[6]? = some (RX7, TX7, 26)) hn hstk hfr hlo hst hd k
theorem gc_L_95 (X : zCx κ G cc (cd :: wsL_law) RL rt rf rl) {As stk : List Value} {r : Int32} {M' : zMem} {F' : Int64} (hM : zCM κ.2.1 yX6_baseline wX6_baseline { frames := 5, cells := 0, slots := 0, locals := 112 } κ.2.2.2.2.2.2.2.2.2.2.1 G (.ref (G.1 0) :: As) M F (some (.int r)) M' F') (hn : As.length = 1) (hstk : stk = As.reverse ++ .ref (G.1 0) :: st) (hfr : 6 ≤ rf) (hlo : 133 ≤ rl) (hst : (st.map fun v => v.category).sum ≤ 8) (hd : decode cc pc = .ok (.invokevirtual 95, 3)) (k : zV κ G (pc + 3) lv (.int r :: st) M' F') : zV κ G pc lv stk M F := z_callV (C := RX6) X hM (zgood (zinV (zr_29 _ (List.mem_of_getElem? (i := 3) rfl)) (zr_29 _ (List.mem_of_getElem? (i := 4) rfl)) (zr_29 _ (List.mem_of_getElem? (i := 5) rfl)) (zr_1 _ (List.mem_of_getElem? (i := 2) rfl)) (zr_29 _ (List.mem_of_getElem? (i := 6) rfl)))) rfl ⟨rfl, by decide, by decide, by decide +kernel⟩ zc_0 zl_0 (rfl : vwCl[5]? = some (RX6, TX6, 7)) hn hstk hfr hlo hst hd k
theorem gc_L_98 (X : zCx κ G cc (cd :: wsL_law) RL rt rf rl) {As stk : List Value} {r : Int32} {M' : zMem} {F' : Int64} (hM : zCM κ.2.1 yX7_baseline wX7_baseline { frames := 6, cells := 0, slots := 0, locals := 136 } κ.2.2.2.2.2.2.2.2.2.2.1 G (.ref (G.1 60) :: As) M F (some (.int r)) M' F') (hn : As.length = 1) (hstk : stk = As.reverse ++ .ref (G.1 60) :: st) (hfr : 7 ≤ rf) (hlo : 157 ≤ rl) (hst : (st.map fun v => v.category).sum ≤ 8) (hd : decode cc pc = .ok (.invokevirtual 98, 3)) (k : zV κ G (pc + 3) lv (.int r :: st) M' F') : zV κ G pc lv stk M F := z_callV (C := RX7) X hM (zgood (zinV (zr_30 _ (List.mem_of_getElem? (i := 21) rfl)) (zr_30 _ (List.mem_of_getElem? (i := 22) rfl)) (zr_30 _ (List.mem_of_getElem? (i := 23) rfl)) (zr_1 _ (List.mem_of_getElem? (i := 5) rfl)) (zr_31 _ (List.mem_of_getElem? (i := 0) rfl)))) rfl ⟨rfl, by decide, by decide, by decide +kernel⟩ zc_60 zl_60 (rfl : vwCl[6]? = some (RX7, TX7, 26)) hn hstk hfr hlo hst hd k
theorem gc_L_99 (X : zCx κ G cc (cd :: wsL_law) RL rt rf rl) {As stk : List Value} {r : Int32} {M' : zMem} {F' : Int64} (hM : zCM κ.2.1 yX6_foot wX6_foot { frames := 5, cells := 0, slots := 0, locals := 112 } κ.2.2.2.2.2.2.2.2.2.2.1 G (.ref (G.1 0) :: As) M F (some (.int r)) M' F') (hn : As.length = 1) (hstk : stk = As.reverse ++ .ref (G.1 0) :: st) (hfr : 6 ≤ rf) (hlo : 133 ≤ rl) (hst : (st.map fun v => v.category).sum ≤ 8) (hd : decode cc pc = .ok (.invokevirtual 99, 3)) (k : zV κ G (pc + 3) lv (.int r :: st) M' F') : zV κ G pc lv stk M F := z_callV (C := RX6) X hM (zgood (zinV (zr_32 _ (List.mem_of_getElem? (i := 7) rfl)) (zr_32 _ (List.mem_of_getElem? (i := 8) rfl)) (zr_32 _ (List.mem_of_getElem? (i := 9) rfl)) (zr_1 _ (List.mem_of_getElem? (i := 2) rfl)) (zr_32 _ (List.mem_of_getElem? (i := 10) rfl)))) rfl ⟨rfl, by decide, by decide, by decide +kernel⟩ zc_0 zl_0 (rfl : vwCl[5]? = some (RX6, TX6, 7)) hn hstk hfr hlo hst hd k
theorem gc_L_102 (X : zCx κ G cc (cd :: wsL_law) RL rt rf rl) {As stk : List Value} {r : Int32} {M' : zMem} {F' : Int64} (hM : zCM κ.2.1 yX7_foot wX7_foot { frames := 6, cells := 0, slots := 0, locals := 136 } κ.2.2.2.2.2.2.2.2.2.2.1 G (.ref (G.1 60) :: As) M F (some (.int r)) M' F') (hn : As.length = 1) (hstk : stk = As.reverse ++ .ref (G.1 60) :: st) (hfr : 7 ≤ rf) (hlo : 157 ≤ rl) (hst : (st.map fun v => v.category).sum ≤ 8) (hd : decode cc pc = .ok (.invokevirtual 102, 3)) (k : zV κ G (pc + 3) lv (.int r :: st) M' F') : zV κ G pc lv stk M F := z_callV (C := RX7) X hM (zgood (zinV (zr_32 _ (List.mem_of_getElem? (i := 20) rfl)) (zr_32 _ (List.mem_of_getElem? (i := 21) rfl)) (zr_32 _ (List.mem_of_getElem? (i := 22) rfl)) (zr_1 _ (List.mem_of_getElem? (i := 5) rfl)) (zr_32 _ (List.mem_of_getElem? (i := 23) rfl)))) rfl ⟨rfl, by decide, by decide, by decide +kernel⟩ zc_60 zl_60 (rfl : vwCl[6]? = some (RX7, TX7, 26)) hn hstk hfr hlo hst hd k
theorem gc_L_103 (X : zCx κ G cc (cd :: wsL_law) RL rt rf rl) {As stk : List Value} {r : Int32} {M' : zMem} {F' : Int64} (hM : zCM κ.2.1 yX6_curl wX6_curl { frames := 5, cells := 0, slots := 0, locals := 112 } κ.2.2.2.2.2.2.2.2.2.2.1 G (.ref (G.1 0) :: As) M F (some (.int r)) M' F') (hn : As.length = 1) (hstk : stk = As.reverse ++ .ref (G.1 0) :: st) (hfr : 6 ≤ rf) (hlo : 133 ≤ rl) (hst : (st.map fun v => v.category).sum ≤ 8) (hd : decode cc pc = .ok (.invokevirtual 103, 3)) (k : zV κ G (pc + 3) lv (.int r :: st) M' F') : zV κ G pc lv stk M F := z_callV (C := RX6) X hM (zgood (zinV (zr_33 _ (List.mem_of_getElem? (i := 0) rfl)) (zr_33 _ (List.mem_of_getElem? (i := 1) rfl)) (zr_33 _ (List.mem_of_getElem? (i := 2) rfl)) (zr_1 _ (List.mem_of_getElem? (i := 2) rfl)) (zr_33 _ (List.mem_of_getElem? (i := 3) rfl)))) rfl ⟨rfl, by decide, by decide, by decide +kernel⟩ zc_0 zl_0 (rfl : vwCl[5]? = some (RX6, TX6, 7)) hn hstk hfr hlo hst hd k
theorem gc_L_106 (X : zCx κ G cc (cd :: wsL_law) RL rt rf rl) {As stk : List Value} {r : Int32} {M' : zMem} {F' : Int64} (hM : zCM κ.2.1 yX7_curl wX7_curl { frames := 6, cells := 0, slots := 0, locals := 136 } κ.2.2.2.2.2.2.2.2.2.2.1 G (.ref (G.1 60) :: As) M F (some (.int r)) M' F') (hn : As.length = 1) (hstk : stk = As.reverse ++ .ref (G.1 60) :: st) (hfr : 7 ≤ rf) (hlo : 157 ≤ rl) (hst : (st.map fun v => v.category).sum ≤ 8) (hd : decode cc pc = .ok (.invokevirtual 106, 3)) (k : zV κ G (pc + 3) lv (.int r :: st) M' F') : zV κ G pc lv stk M F := z_callV (C := RX7) X hM (zgood (zinV (zr_33 _ (List.mem_of_getElem? (i := 11) rfl)) (zr_33 _ (List.mem_of_getElem? (i := 12) rfl)) (zr_33 _ (List.mem_of_getElem? (i := 13) rfl)) (zr_1 _ (List.mem_of_getElem? (i := 5) rfl)) (zr_33 _ (List.mem_of_getElem? (i := 14) rfl)))) rfl ⟨rfl, by decide, by decide, by decide +kernel⟩ zc_60 zl_60 (rfl : vwCl[6]? = some (RX7, TX7, 26)) hn hstk hfr hlo hst hd k
theorem gc_L_107 (X : zCx κ G cc (cd :: wsL_law) RL rt rf rl) {As stk : List Value} {r : Int64} {M' : zMem} {F' : Int64} (hM : zCM κ.2.1 yX6_mean wX6_mean { frames := 5, cells := 0, slots := 0, locals := 112 } κ.2.2.2.2.2.2.2.2.2.2.1 G (.ref (G.1 0) :: As) M F (some (.long r)) M' F') (hn : As.length = 0) (hstk : stk = As.reverse ++ .ref (G.1 0) :: st) (hfr : 6 ≤ rf) (hlo : 132 ≤ rl) (hst : (st.map fun v => v.category).sum ≤ 8) (hd : decode cc pc = .ok (.invokevirtual 107, 3)) (k : zV κ G (pc + 3) lv (.long r :: st) M' F') : zV κ G pc lv stk M F := z_callV (C := RX6) X hM (zgood (zinV (zr_33 _ (List.mem_of_getElem? (i := 19) rfl)) (zr_33 _ (List.mem_of_getElem? (i := 20) rfl)) (zr_33 _ (List.mem_of_getElem? (i := 21) rfl)) (zr_1 _ (List.mem_of_getElem? (i := 2) rfl)) (zr_33 _ (List.mem_of_getElem? (i := 22) rfl)))) rfl ⟨rfl, by decide, by decide, by decide +kernel⟩ zc_0 zl_0 (rfl : vwCl[5]? = some (RX6, TX6, 7)) hn hstk hfr hlo hst hd k
theorem gc_L_111 (X : zCx κ G cc (cd :: wsL_law) RL rt rf rl) {As stk : List Value} {r : Int64} {M' : zMem} {F' : Int64} (hM : zCM κ.2.1 yX7_mean wX7_mean { frames := 6, cells := 0, slots := 0, locals := 136 } κ.2.2.2.2.2.2.2.2.2.2.1 G (.ref (G.1 60) :: As) M F (some (.long r)) M' F') (hn : As.length = 0) (hstk : stk = As.reverse ++ .ref (G.1 60) :: st) (hfr : 7 ≤ rf) (hlo : 156 ≤ rl) (hst : (st.map fun v => v.category).sum ≤ 8) (hd : decode cc pc = .ok (.invokevirtual 111, 3)) (k : zV κ G (pc + 3) lv (.long r :: st) M' F') : zV κ G pc lv stk M F := z_callV (C := RX7) X hM (zgood (zinV (zr_34 _ (List.mem_of_getElem? (i := 14) rfl)) (zr_34 _ (List.mem_of_getElem? (i := 15) rfl)) (zr_34 _ (List.mem_of_getElem? (i := 16) rfl)) (zr_1 _ (List.mem_of_getElem? (i := 5) rfl)) (zr_34 _ (List.mem_of_getElem? (i := 17) rfl)))) rfl ⟨rfl, by decide, by decide, by decide +kernel⟩ zc_60 zl_60 (rfl : vwCl[6]? = some (RX7, TX7, 26)) hn hstk hfr hlo hst hd k
theorem gc_L_112 (X : zCx κ G cc (cd :: wsL_law) RL rt rf rl) {As stk : List Value} {r : Int64} {M' : zMem} {F' : Int64} (hM : zCM κ.2.1 yX6_rest wX6_rest { frames := 5, cells := 0, slots := 0, locals := 112 } κ.2.2.2.2.2.2.2.2.2.2.1 G (.ref (G.1 0) :: As) M F (some (.long r)) M' F') (hn : As.length = 0) (hstk : stk = As.reverse ++ .ref (G.1 0) :: st) (hfr : 6 ≤ rf) (hlo : 132 ≤ rl) (hst : (st.map fun v => v.category).sum ≤ 8) (hd : decode cc pc = .ok (.invokevirtual 112, 3)) (k : zV κ G (pc + 3) lv (.long r :: st) M' F') : zV κ G pc lv stk M F := z_callV (C := RX6) X hM (zgood (zinV (zr_35 _ (List.mem_of_getElem? (i := 4) rfl)) (zr_35 _ (List.mem_of_getElem? (i := 5) rfl)) (zr_35 _ (List.mem_of_getElem? (i := 6) rfl)) (zr_1 _ (List.mem_of_getElem? (i := 2) rfl)) (zr_35 _ (List.mem_of_getElem? (i := 7) rfl)))) rfl ⟨rfl, by decide, by decide, by decide +kernel⟩ zc_0 zl_0 (rfl : vwCl[5]? = some (RX6, TX6, 7)) hn hstk hfr hlo hst hd k
theorem gc_L_115 (X : zCx κ G cc (cd :: wsL_law) RL rt rf rl) {As stk : List Value} {r : Int64} {M' : zMem} {F' : Int64} (hM : zCM κ.2.1 yX7_rest wX7_rest { frames := 6, cells := 0, slots := 0, locals := 136 } κ.2.2.2.2.2.2.2.2.2.2.1 G (.ref (G.1 60) :: As) M F (some (.long r)) M' F') (hn : As.length = 0) (hstk : stk = As.reverse ++ .ref (G.1 60) :: st) (hfr : 7 ≤ rf) (hlo : 156 ≤ rl) (hst : (st.map fun v => v.category).sum ≤ 8) (hd : decode cc pc = .ok (.invokevirtual 115, 3)) (k : zV κ G (pc + 3) lv (.long r :: st) M' F') : zV κ G pc lv stk M F := z_callV (C := RX7) X hM (zgood (zinV (zr_35 _ (List.mem_of_getElem? (i := 12) rfl)) (zr_35 _ (List.mem_of_getElem? (i := 13) rfl)) (zr_35 _ (List.mem_of_getElem? (i := 14) rfl)) (zr_1 _ (List.mem_of_getElem? (i := 5) rfl)) (zr_35 _ (List.mem_of_getElem? (i := 15) rfl)))) rfl ⟨rfl, by decide, by decide, by decide +kernel⟩ zc_60 zl_60 (rfl : vwCl[6]? = some (RX7, TX7, 26)) hn hstk hfr hlo hst hd k
theorem gc_L_116 (X : zCx κ G cc (cd :: wsL_law) RL rt rf rl) {As stk : List Value} {r : Int32} {M' : zMem} {F' : Int64} (hM : zCM κ.2.1 yX6_slope wX6_slope { frames := 5, cells := 0, slots := 0, locals := 112 } κ.2.2.2.2.2.2.2.2.2.2.1 G (.ref (G.1 0) :: As) M F (some (.int r)) M' F') (hn : As.length = 0) (hstk : stk = As.reverse ++ .ref (G.1 0) :: st) (hfr : 6 ≤ rf) (hlo : 132 ≤ rl) (hst : (st.map fun v => v.category).sum ≤ 8) (hd : decode cc pc = .ok (.invokevirtual 116, 3)) (k : zV κ G (pc + 3) lv (.int r :: st) M' F') : zV κ G pc lv stk M F := z_callV (C := RX6) X hM (zgood (zinV (zr_35 _ (List.mem_of_getElem? (i := 17) rfl)) (zr_35 _ (List.mem_of_getElem? (i := 18) rfl)) (zr_35 _ (List.mem_of_getElem? (i := 19) rfl)) (zr_1 _ (List.mem_of_getElem? (i := 2) rfl)) (zr_35 _ (List.mem_of_getElem? (i := 20) rfl)))) rfl ⟨rfl, by decide, by decide, by decide +kernel⟩ zc_0 zl_0 (rfl : vwCl[5]? = some (RX6, TX6, 7)) hn hstk hfr hlo hst hd k
theorem gc_L_120 (X : zCx κ G cc (cd :: wsL_law) RL rt rf rl) {As stk : List Value} {r : Int32} {M' : zMem} {F' : Int64} (hM : zCM κ.2.1 yX7_slope wX7_slope { frames := 6, cells := 0, slots := 0, locals := 136 } κ.2.2.2.2.2.2.2.2.2.2.1 G (.ref (G.1 60) :: As) M F (some (.int r)) M' F') (hn : As.length = 0) (hstk : stk = As.reverse ++ .ref (G.1 60) :: st) (hfr : 7 ≤ rf) (hlo : 163 ≤ rl) (hst : (st.map fun v => v.category).sum ≤ 8) (hd : decode cc pc = .ok (.invokevirtual 120, 3)) (k : zV κ G (pc + 3) lv (.int r :: st) M' F') : zV κ G pc lv stk M F := z_callV (C := RX7) X hM (zgood (zinV (zr_36 _ (List.mem_of_getElem? (i := 8) rfl)) (zr_36 _ (List.mem_of_getElem? (i := 9) rfl)) (zr_36 _ (List.mem_of_getElem? (i := 10) rfl)) (zr_1 _ (List.mem_of_getElem? (i := 5) rfl)) (zr_36 _ (List.mem_of_getElem? (i := 11) rfl)))) rfl ⟨rfl, by decide, by decide, by decide +kernel⟩ zc_60 zl_60 (rfl : vwCl[6]? = some (RX7, TX7, 26)) hn hstk hfr hlo hst hd k
theorem gc_L_121 (X : zCx κ G cc (cd :: wsL_law) RL rt rf rl) {As stk : List Value} {r : Int32} {M' : zMem} {F' : Int64} (hM : zCM κ.2.1 yX6_level wX6_level { frames := 5, cells := 0, slots := 0, locals := 112 } κ.2.2.2.2.2.2.2.2.2.2.1 G (.ref (G.1 0) :: As) M F (some (.int r)) M' F') (hn : As.length = 0) (hstk : stk = As.reverse ++ .ref (G.1 0) :: st) (hfr : 6 ≤ rf) (hlo : 133 ≤ rl) (hst : (st.map fun v => v.category).sum ≤ 8) (hd : decode cc pc = .ok (.invokevirtual 121, 3)) (k : zV κ G (pc + 3) lv (.int r :: st) M' F') : zV κ G pc lv stk M F := z_callV (C := RX6) X hM (zgood (zinV (zr_36 _ (List.mem_of_getElem? (i := 13) rfl)) (zr_36 _ (List.mem_of_getElem? (i := 14) rfl)) (zr_36 _ (List.mem_of_getElem? (i := 15) rfl)) (zr_1 _ (List.mem_of_getElem? (i := 2) rfl)) (zr_36 _ (List.mem_of_getElem? (i := 16) rfl)))) rfl ⟨rfl, by decide, by decide, by decide +kernel⟩ zc_0 zl_0 (rfl : vwCl[5]? = some (RX6, TX6, 7)) hn hstk hfr hlo hst hd k
theorem gc_L_124 (X : zCx κ G cc (cd :: wsL_law) RL rt rf rl) {As stk : List Value} {r : Int32} {M' : zMem} {F' : Int64} (hM : zCM κ.2.1 yX7_level wX7_level { frames := 6, cells := 0, slots := 0, locals := 138 } κ.2.2.2.2.2.2.2.2.2.2.1 G (.ref (G.1 60) :: As) M F (some (.int r)) M' F') (hn : As.length = 0) (hstk : stk = As.reverse ++ .ref (G.1 60) :: st) (hfr : 7 ≤ rf) (hlo : 158 ≤ rl) (hst : (st.map fun v => v.category).sum ≤ 8) (hd : decode cc pc = .ok (.invokevirtual 124, 3)) (k : zV κ G (pc + 3) lv (.int r :: st) M' F') : zV κ G pc lv stk M F := z_callV (C := RX7) X hM (zgood (zinV (zr_36 _ (List.mem_of_getElem? (i := 17) rfl)) (zr_36 _ (List.mem_of_getElem? (i := 18) rfl)) (zr_36 _ (List.mem_of_getElem? (i := 19) rfl)) (zr_1 _ (List.mem_of_getElem? (i := 5) rfl)) (zr_36 _ (List.mem_of_getElem? (i := 20) rfl)))) rfl ⟨rfl, by decide, by decide, by decide +kernel⟩ zc_60 zl_60 (rfl : vwCl[6]? = some (RX7, TX7, 26)) hn hstk hfr hlo hst hd k
theorem gc_L_125 (X : zCx κ G cc (cd :: wsL_law) RL rt rf rl) {As stk : List Value} {r : Int32} {M' : zMem} {F' : Int64} (hM : zCM κ.2.1 yX6_back wX6_back { frames := 2, cells := 0, slots := 0, locals := 60 } κ.2.2.2.2.2.2.2.2.2.2.1 G (.ref (G.1 0) :: As) M F (some (.int r)) M' F') (hn : As.length = 0) (hstk : stk = As.reverse ++ .ref (G.1 0) :: st) (hfr : 3 ≤ rf) (hlo : 80 ≤ rl) (hst : (st.map fun v => v.category).sum ≤ 8) (hd : decode cc pc = .ok (.invokevirtual 125, 3)) (k : zV κ G (pc + 3) lv (.int r :: st) M' F') : zV κ G pc lv stk M F := z_callV (C := RX6) X hM (zgood (zinV (zr_36 _ (List.mem_of_getElem? (i := 21) rfl)) (zr_36 _ (List.mem_of_getElem? (i := 22) rfl)) (zr_36 _ (List.mem_of_getElem? (i := 23) rfl)) (zr_1 _ (List.mem_of_getElem? (i := 2) rfl)) (zr_37 _ (List.mem_of_getElem? (i := 0) rfl)))) rfl ⟨rfl, by decide, by decide, by decide +kernel⟩ zc_0 zl_0 (rfl : vwCl[5]? = some (RX6, TX6, 7)) hn hstk hfr hlo hst hd k
theorem gc_L_128 (X : zCx κ G cc (cd :: wsL_law) RL rt rf rl) {As stk : List Value} {r : Int32} {M' : zMem} {F' : Int64} (hM : zCM κ.2.1 yX7_back wX7_back { frames := 0, cells := 0, slots := 0, locals := 0 } κ.2.2.2.2.2.2.2.2.2.2.1 G (.ref (G.1 60) :: As) M F (some (.int r)) M' F') (hn : As.length = 0) (hstk : stk = As.reverse ++ .ref (G.1 60) :: st) (hfr : 1 ≤ rf) (hlo : 21 ≤ rl) (hst : (st.map fun v => v.category).sum ≤ 8) (hd : decode cc pc = .ok (.invokevirtual 128, 3)) (k : zV κ G (pc + 3) lv (.int r :: st) M' F') : zV κ G pc lv stk M F := z_callV (C := RX7) X hM (zgood (zinV (zr_37 _ (List.mem_of_getElem? (i := 9) rfl)) (zr_37 _ (List.mem_of_getElem? (i := 10) rfl)) (zr_37 _ (List.mem_of_getElem? (i := 11) rfl)) (zr_1 _ (List.mem_of_getElem? (i := 5) rfl)) (zr_37 _ (List.mem_of_getElem? (i := 12) rfl)))) rfl ⟨rfl, by decide, by decide, by decide +kernel⟩ zc_60 zl_60 (rfl : vwCl[6]? = some (RX7, TX7, 26)) hn hstk hfr hlo hst hd k
theorem gc_L_129 (X : zCx κ G cc (cd :: wsL_law) RL rt rf rl) {As stk : List Value} {r : Int32} {M' : zMem} {F' : Int64} (hM : zCM κ.2.1 yX6_fault wX6_fault { frames := 0, cells := 0, slots := 0, locals := 0 } κ.2.2.2.2.2.2.2.2.2.2.1 G (.ref (G.1 0) :: As) M F (some (.int r)) M' F') (hn : As.length = 0) (hstk : stk = As.reverse ++ .ref (G.1 0) :: st) (hfr : 1 ≤ rf) (hlo : 20 ≤ rl) (hst : (st.map fun v => v.category).sum ≤ 8) (hd : decode cc pc = .ok (.invokevirtual 129, 3)) (k : zV κ G (pc + 3) lv (.int r :: st) M' F') : zV κ G pc lv stk M F := z_callV (C := RX6) X hM (zgood (zinV (zr_37 _ (List.mem_of_getElem? (i := 13) rfl)) (zr_37 _ (List.mem_of_getElem? (i := 14) rfl)) (zr_37 _ (List.mem_of_getElem? (i := 15) rfl)) (zr_1 _ (List.mem_of_getElem? (i := 2) rfl)) (zr_37 _ (List.mem_of_getElem? (i := 16) rfl)))) rfl ⟨rfl, by decide, by decide, by decide +kernel⟩ zc_0 zl_0 (rfl : vwCl[5]? = some (RX6, TX6, 7)) hn hstk hfr hlo hst hd k
theorem gc_L_132 (X : zCx κ G cc (cd :: wsL_law) RL rt rf rl) {As stk : List Value} {r : Int32} {M' : zMem} {F' : Int64} (hM : zCM κ.2.1 yX7_fault wX7_fault { frames := 0, cells := 0, slots := 0, locals := 0 } κ.2.2.2.2.2.2.2.2.2.2.1 G (.ref (G.1 60) :: As) M F (some (.int r)) M' F') (hn : As.length = 0) (hstk : stk = As.reverse ++ .ref (G.1 60) :: st) (hfr : 1 ≤ rf) (hlo : 20 ≤ rl) (hst : (st.map fun v => v.category).sum ≤ 8) (hd : decode cc pc = .ok (.invokevirtual 132, 3)) (k : zV κ G (pc + 3) lv (.int r :: st) M' F') : zV κ G pc lv stk M F := z_callV (C := RX7) X hM (zgood (zinV (zr_37 _ (List.mem_of_getElem? (i := 17) rfl)) (zr_37 _ (List.mem_of_getElem? (i := 18) rfl)) (zr_37 _ (List.mem_of_getElem? (i := 19) rfl)) (zr_1 _ (List.mem_of_getElem? (i := 5) rfl)) (zr_37 _ (List.mem_of_getElem? (i := 20) rfl)))) rfl ⟨rfl, by decide, by decide, by decide +kernel⟩ zc_60 zl_60 (rfl : vwCl[6]? = some (RX7, TX7, 26)) hn hstk hfr hlo hst hd k
theorem gc_L_133 (X : zCx κ G cc (cd :: wsL_law) RL rt rf rl) {As stk : List Value} {r : Int32} {M' : zMem} {F' : Int64} (hM : zCM κ.2.1 yX6_many wX6_many { frames := 5, cells := 0, slots := 0, locals := 113 } κ.2.2.2.2.2.2.2.2.2.2.1 G (.ref (G.1 0) :: As) M F (some (.int r)) M' F') (hn : As.length = 1) (hstk : stk = As.reverse ++ .ref (G.1 0) :: st) (hfr : 6 ≤ rf) (hlo : 134 ≤ rl) (hst : (st.map fun v => v.category).sum ≤ 8) (hd : decode cc pc = .ok (.invokevirtual 133, 3)) (k : zV κ G (pc + 3) lv (.int r :: st) M' F') : zV κ G pc lv stk M F := z_callV (C := RX6) X hM (zgood (zinV (zr_37 _ (List.mem_of_getElem? (i := 21) rfl)) (zr_37 _ (List.mem_of_getElem? (i := 22) rfl)) (zr_37 _ (List.mem_of_getElem? (i := 23) rfl)) (zr_1 _ (List.mem_of_getElem? (i := 2) rfl)) (zr_38 _ (List.mem_of_getElem? (i := 0) rfl)))) rfl ⟨rfl, by decide, by decide, by decide +kernel⟩ zc_0 zl_0 (rfl : vwCl[5]? = some (RX6, TX6, 7)) hn hstk hfr hlo hst hd k
theorem gc_L_136 (X : zCx κ G cc (cd :: wsL_law) RL rt rf rl) {As stk : List Value} {r : Int32} {M' : zMem} {F' : Int64} (hM : zCM κ.2.1 yX7_many wX7_many { frames := 5, cells := 0, slots := 0, locals := 110 } κ.2.2.2.2.2.2.2.2.2.2.1 G (.ref (G.1 60) :: As) M F (some (.int r)) M' F') (hn : As.length = 1) (hstk : stk = As.reverse ++ .ref (G.1 60) :: st) (hfr : 6 ≤ rf) (hlo : 133 ≤ rl) (hst : (st.map fun v => v.category).sum ≤ 8) (hd : decode cc pc = .ok (.invokevirtual 136, 3)) (k : zV κ G (pc + 3) lv (.int r :: st) M' F') : zV κ G pc lv stk M F := z_callV (C := RX7) X hM (zgood (zinV (zr_38 _ (List.mem_of_getElem? (i := 10) rfl)) (zr_38 _ (List.mem_of_getElem? (i := 11) rfl)) (zr_38 _ (List.mem_of_getElem? (i := 12) rfl)) (zr_1 _ (List.mem_of_getElem? (i := 5) rfl)) (zr_38 _ (List.mem_of_getElem? (i := 13) rfl)))) rfl ⟨rfl, by decide, by decide, by decide +kernel⟩ zc_60 zl_60 (rfl : vwCl[6]? = some (RX7, TX7, 26)) hn hstk hfr hlo hst hd k
end LCALL
section LCASE
variable {κ : zK} {G : zG} {cd : Cond} {b L : Nat} {xs : Nat → Int32} {i : Int32} {M : zMem} {F : Int64}
def lIn (i : Int32) (L : Nat) : Prop := vp_in (i + 1) L ∧ vp_in (i + 2) L ∧ vp_in (i + 3) L ∧ vp_in (i + 4) L ∧ vp_in (i + 5) L
/-- page -/
theorem lc_0 (X : zCx κ G cL_law (cd :: wsL_law) RL ret 11 412) (Y : zSc κ b L xs) (hR : Rl M) (hi : lIn i L) (k : ∀ M' F', Rl M' → zV κ G 995 [(3, .int i), (2, .ref (G.1 60)), (1, .ref (G.1 0)), (0, .ref b)] [] M' F') : zV κ G 164 [(3, .int i), (2, .ref (G.1 60)), (1, .ref (G.1 0)), (0, .ref b)] [] M F := by
  obtain ⟨o, M1, M2, e1, e2, hR2⟩ := st_page hR (xs (i + 1).toNatClampNeg)
  refine z_aload_n X dL_law_164 rfl 2 rfl ?_
  refine z_aload_n X dL_law_165 rfl 3 rfl ?_
  refine z_iload_n X dL_law_166 rfl 0 rfl ?_
  refine z_iconst (v := 1) X dL_law_167 (by decide) ?_
  refine z_iadd X dL_law_168 ?_
  refine z_sld X Y hi.1 dL_law_169 ?_
  refine gc_L_13 (st := []) X (mtX6_page κ.2.1 κ.2.2.2.2.2.2.2.2.2.2.1 G e1) rfl rfl (Nat.le_of_ble_eq_true rfl) (Nat.le_of_ble_eq_true rfl) (Nat.le_of_ble_eq_true rfl) dL_law_170 ?_
  refine z_aload_n X dL_law_173 rfl 1 rfl ?_
  refine z_aload_n X dL_law_174 rfl 3 rfl ?_
  refine z_iload_n X dL_law_175 rfl 0 rfl ?_
  refine z_iconst (v := 1) X dL_law_176 (by decide) ?_
  refine z_iadd X dL_law_177 ?_
  refine z_sld X Y hi.1 dL_law_178 ?_
  refine gc_L_17 (st := [.int o]) X (mtX7_page κ.2.1 κ.2.2.2.2.2.2.2.2.2.2.1 G e2) rfl rfl (Nat.le_of_ble_eq_true rfl) (Nat.le_of_ble_eq_true rfl) (Nat.le_of_ble_eq_true rfl) dL_law_179 ?_
  exact z_icmp_eq (tgt := 995) X dL_law_182 (by decide) (fun _ => k M2 F hR2) (fun h => absurd rfl h)
/-- dot -/
theorem lc_1 (X : zCx κ G cL_law (cd :: wsL_law) RL ret 11 412) (Y : zSc κ b L xs) (hR : Rl M) (hi : lIn i L) (k : ∀ M' F', Rl M' → zV κ G 995 [(3, .int i), (2, .ref (G.1 60)), (1, .ref (G.1 0)), (0, .ref b)] [] M' F') : zV κ G 187 [(3, .int i), (2, .ref (G.1 60)), (1, .ref (G.1 0)), (0, .ref b)] [] M F := by
  obtain ⟨o, M1, M2, e1, e2, hR2⟩ := st_dot hR (xs (i + 1).toNatClampNeg) (xs (i + 2).toNatClampNeg) (xs (i + 3).toNatClampNeg)
  refine z_aload_n X dL_law_187 rfl 2 rfl ?_
  refine z_aload_n X dL_law_188 rfl 3 rfl ?_
  refine z_iload_n X dL_law_189 rfl 0 rfl ?_
  refine z_iconst (v := 1) X dL_law_190 (by decide) ?_
  refine z_iadd X dL_law_191 ?_
  refine z_sld X Y hi.1 dL_law_192 ?_
  refine z_aload_n X dL_law_193 rfl 3 rfl ?_
  refine z_iload_n X dL_law_194 rfl 0 rfl ?_
  refine z_iconst (v := 2) X dL_law_195 (by decide) ?_
  refine z_iadd X dL_law_196 ?_
  refine z_sld X Y hi.2.1 dL_law_197 ?_
  refine z_aload_n X dL_law_198 rfl 3 rfl ?_
  refine z_iload_n X dL_law_199 rfl 0 rfl ?_
  refine z_iconst (v := 3) X dL_law_200 (by decide) ?_
  refine z_iadd X dL_law_201 ?_
  refine z_sld X Y hi.2.2.1 dL_law_202 ?_
  refine gc_L_18 (st := []) X (mtX6_dot κ.2.1 κ.2.2.2.2.2.2.2.2.2.2.1 G e1) rfl rfl (Nat.le_of_ble_eq_true rfl) (Nat.le_of_ble_eq_true rfl) (Nat.le_of_ble_eq_true rfl) dL_law_203 ?_
  refine z_aload_n X dL_law_206 rfl 1 rfl ?_
  refine z_aload_n X dL_law_207 rfl 3 rfl ?_
  refine z_iload_n X dL_law_208 rfl 0 rfl ?_
  refine z_iconst (v := 1) X dL_law_209 (by decide) ?_
  refine z_iadd X dL_law_210 ?_
  refine z_sld X Y hi.1 dL_law_211 ?_
  refine z_aload_n X dL_law_212 rfl 3 rfl ?_
  refine z_iload_n X dL_law_213 rfl 0 rfl ?_
  refine z_iconst (v := 2) X dL_law_214 (by decide) ?_
  refine z_iadd X dL_law_215 ?_
  refine z_sld X Y hi.2.1 dL_law_216 ?_
  refine z_aload_n X dL_law_217 rfl 3 rfl ?_
  refine z_iload_n X dL_law_218 rfl 0 rfl ?_
  refine z_iconst (v := 3) X dL_law_219 (by decide) ?_
  refine z_iadd X dL_law_220 ?_
  refine z_sld X Y hi.2.2.1 dL_law_221 ?_
  refine gc_L_22 (st := [.int o]) X (mtX7_dot κ.2.1 κ.2.2.2.2.2.2.2.2.2.2.1 G e2) rfl rfl (Nat.le_of_ble_eq_true rfl) (Nat.le_of_ble_eq_true rfl) (Nat.le_of_ble_eq_true rfl) dL_law_222 ?_
  exact z_icmp_eq (tgt := 995) X dL_law_225 (by decide) (fun _ => k M2 F hR2) (fun h => absurd rfl h)
/-- column -/
theorem lc_2 (X : zCx κ G cL_law (cd :: wsL_law) RL ret 11 412) (Y : zSc κ b L xs) (hR : Rl M) (hi : lIn i L) (k : ∀ M' F', Rl M' → zV κ G 995 [(3, .int i), (2, .ref (G.1 60)), (1, .ref (G.1 0)), (0, .ref b)] [] M' F') : zV κ G 230 [(3, .int i), (2, .ref (G.1 60)), (1, .ref (G.1 0)), (0, .ref b)] [] M F := by
  obtain ⟨o, e1, e2⟩ := st_column hR (xs (i + 1).toNatClampNeg)
  refine z_aload_n X dL_law_230 rfl 2 rfl ?_
  refine z_aload_n X dL_law_231 rfl 3 rfl ?_
  refine z_iload_n X dL_law_232 rfl 0 rfl ?_
  refine z_iconst (v := 1) X dL_law_233 (by decide) ?_
  refine z_iadd X dL_law_234 ?_
  refine z_sld X Y hi.1 dL_law_235 ?_
  refine gc_L_23 (st := []) X (mtX6_column κ.2.1 κ.2.2.2.2.2.2.2.2.2.2.1 G e1) rfl rfl (Nat.le_of_ble_eq_true rfl) (Nat.le_of_ble_eq_true rfl) (Nat.le_of_ble_eq_true rfl) dL_law_236 ?_
  refine z_aload_n X dL_law_239 rfl 1 rfl ?_
  refine z_aload_n X dL_law_240 rfl 3 rfl ?_
  refine z_iload_n X dL_law_241 rfl 0 rfl ?_
  refine z_iconst (v := 1) X dL_law_242 (by decide) ?_
  refine z_iadd X dL_law_243 ?_
  refine z_sld X Y hi.1 dL_law_244 ?_
  refine gc_L_27 (st := [.long o]) X (mtX7_column κ.2.1 κ.2.2.2.2.2.2.2.2.2.2.1 G e2) rfl rfl (Nat.le_of_ble_eq_true rfl) (Nat.le_of_ble_eq_true rfl) (Nat.le_of_ble_eq_true rfl) dL_law_245 ?_
  refine z_lcmp X dL_law_248 ?_
  exact z_if_eq (tgt := 995) X dL_law_249 (by decide) (fun _ => k M F hR) (fun h => absurd (by rw [lg_cmp_eq]) h)
/-- row -/
theorem lc_3 (X : zCx κ G cL_law (cd :: wsL_law) RL ret 11 412) (Y : zSc κ b L xs) (hR : Rl M) (hi : lIn i L) (k : ∀ M' F', Rl M' → zV κ G 995 [(3, .int i), (2, .ref (G.1 60)), (1, .ref (G.1 0)), (0, .ref b)] [] M' F') : zV κ G 254 [(3, .int i), (2, .ref (G.1 60)), (1, .ref (G.1 0)), (0, .ref b)] [] M F := by
  obtain ⟨o, M1, M2, e1, e2, hR2⟩ := st_row hR (xs (i + 1).toNatClampNeg) (xs (i + 2).toNatClampNeg)
  refine z_aload_n X dL_law_254 rfl 2 rfl ?_
  refine z_aload_n X dL_law_255 rfl 3 rfl ?_
  refine z_iload_n X dL_law_256 rfl 0 rfl ?_
  refine z_iconst (v := 1) X dL_law_257 (by decide) ?_
  refine z_iadd X dL_law_258 ?_
  refine z_sld X Y hi.1 dL_law_259 ?_
  refine z_aload_n X dL_law_260 rfl 3 rfl ?_
  refine z_iload_n X dL_law_261 rfl 0 rfl ?_
  refine z_iconst (v := 2) X dL_law_262 (by decide) ?_
  refine z_iadd X dL_law_263 ?_
  refine z_sld X Y hi.2.1 dL_law_264 ?_
  refine gc_L_28 (st := []) X (mtX6_row κ.2.1 κ.2.2.2.2.2.2.2.2.2.2.1 G e1) rfl rfl (Nat.le_of_ble_eq_true rfl) (Nat.le_of_ble_eq_true rfl) (Nat.le_of_ble_eq_true rfl) dL_law_265 ?_
  refine z_aload_n X dL_law_268 rfl 1 rfl ?_
  refine z_aload_n X dL_law_269 rfl 3 rfl ?_
  refine z_iload_n X dL_law_270 rfl 0 rfl ?_
  refine z_iconst (v := 1) X dL_law_271 (by decide) ?_
  refine z_iadd X dL_law_272 ?_
  refine z_sld X Y hi.1 dL_law_273 ?_
  refine z_aload_n X dL_law_274 rfl 3 rfl ?_
  refine z_iload_n X dL_law_275 rfl 0 rfl ?_
  refine z_iconst (v := 2) X dL_law_276 (by decide) ?_
  refine z_iadd X dL_law_277 ?_
  refine z_sld X Y hi.2.1 dL_law_278 ?_
  refine gc_L_32 (st := [.int o]) X (mtX7_row κ.2.1 κ.2.2.2.2.2.2.2.2.2.2.1 G e2) rfl rfl (Nat.le_of_ble_eq_true rfl) (Nat.le_of_ble_eq_true rfl) (Nat.le_of_ble_eq_true rfl) dL_law_279 ?_
  exact z_icmp_eq (tgt := 995) X dL_law_282 (by decide) (fun _ => k M2 F hR2) (fun h => absurd rfl h)
/-- take -/
theorem lc_4 (X : zCx κ G cL_law (cd :: wsL_law) RL ret 11 412) (Y : zSc κ b L xs) (hR : Rl M) (hi : lIn i L) (k : ∀ M' F', Rl M' → zV κ G 995 [(3, .int i), (2, .ref (G.1 60)), (1, .ref (G.1 0)), (0, .ref b)] [] M' F') : zV κ G 287 [(3, .int i), (2, .ref (G.1 60)), (1, .ref (G.1 0)), (0, .ref b)] [] M F := by
  obtain ⟨o, M1, M2, e1, e2, hR2⟩ := st_take hR (xs (i + 1).toNatClampNeg) (xs (i + 2).toNatClampNeg)
  refine z_aload_n X dL_law_287 rfl 2 rfl ?_
  refine z_aload_n X dL_law_288 rfl 3 rfl ?_
  refine z_iload_n X dL_law_289 rfl 0 rfl ?_
  refine z_iconst (v := 1) X dL_law_290 (by decide) ?_
  refine z_iadd X dL_law_291 ?_
  refine z_sld X Y hi.1 dL_law_292 ?_
  refine z_aload_n X dL_law_293 rfl 3 rfl ?_
  refine z_iload_n X dL_law_294 rfl 0 rfl ?_
  refine z_iconst (v := 2) X dL_law_295 (by decide) ?_
  refine z_iadd X dL_law_296 ?_
  refine z_sld X Y hi.2.1 dL_law_297 ?_
  refine gc_L_33 (st := []) X (mtX6_take κ.2.1 κ.2.2.2.2.2.2.2.2.2.2.1 G e1) rfl rfl (Nat.le_of_ble_eq_true rfl) (Nat.le_of_ble_eq_true rfl) (Nat.le_of_ble_eq_true rfl) dL_law_298 ?_
  refine z_aload_n X dL_law_301 rfl 1 rfl ?_
  refine z_aload_n X dL_law_302 rfl 3 rfl ?_
  refine z_iload_n X dL_law_303 rfl 0 rfl ?_
  refine z_iconst (v := 1) X dL_law_304 (by decide) ?_
  refine z_iadd X dL_law_305 ?_
  refine z_sld X Y hi.1 dL_law_306 ?_
  refine z_aload_n X dL_law_307 rfl 3 rfl ?_
  refine z_iload_n X dL_law_308 rfl 0 rfl ?_
  refine z_iconst (v := 2) X dL_law_309 (by decide) ?_
  refine z_iadd X dL_law_310 ?_
  refine z_sld X Y hi.2.1 dL_law_311 ?_
  refine gc_L_36 (st := [.int o]) X (mtX7_take κ.2.1 κ.2.2.2.2.2.2.2.2.2.2.1 G e2) rfl rfl (Nat.le_of_ble_eq_true rfl) (Nat.le_of_ble_eq_true rfl) (Nat.le_of_ble_eq_true rfl) dL_law_312 ?_
  exact z_icmp_eq (tgt := 995) X dL_law_315 (by decide) (fun _ => k M2 F hR2) (fun h => absurd rfl h)
/-- blank -/
theorem lc_5 (X : zCx κ G cL_law (cd :: wsL_law) RL ret 11 412) (Y : zSc κ b L xs) (hR : Rl M) (hi : lIn i L) (k : ∀ M' F', Rl M' → zV κ G 995 [(3, .int i), (2, .ref (G.1 60)), (1, .ref (G.1 0)), (0, .ref b)] [] M' F') : zV κ G 320 [(3, .int i), (2, .ref (G.1 60)), (1, .ref (G.1 0)), (0, .ref b)] [] M F := by
  obtain ⟨o, M1, M2, e1, e2, hR2⟩ := st_blank hR (xs (i + 1).toNatClampNeg) (xs (i + 2).toNatClampNeg) (xs (i + 3).toNatClampNeg)
  refine z_aload_n X dL_law_320 rfl 2 rfl ?_
  refine z_aload_n X dL_law_321 rfl 3 rfl ?_
  refine z_iload_n X dL_law_322 rfl 0 rfl ?_
  refine z_iconst (v := 1) X dL_law_323 (by decide) ?_
  refine z_iadd X dL_law_324 ?_
  refine z_sld X Y hi.1 dL_law_325 ?_
  refine z_aload_n X dL_law_326 rfl 3 rfl ?_
  refine z_iload_n X dL_law_327 rfl 0 rfl ?_
  refine z_iconst (v := 2) X dL_law_328 (by decide) ?_
  refine z_iadd X dL_law_329 ?_
  refine z_sld X Y hi.2.1 dL_law_330 ?_
  refine z_aload_n X dL_law_331 rfl 3 rfl ?_
  refine z_iload_n X dL_law_332 rfl 0 rfl ?_
  refine z_iconst (v := 3) X dL_law_333 (by decide) ?_
  refine z_iadd X dL_law_334 ?_
  refine z_sld X Y hi.2.2.1 dL_law_335 ?_
  refine gc_L_37 (st := []) X (mtX6_blank κ.2.1 κ.2.2.2.2.2.2.2.2.2.2.1 G e1) rfl rfl (Nat.le_of_ble_eq_true rfl) (Nat.le_of_ble_eq_true rfl) (Nat.le_of_ble_eq_true rfl) dL_law_336 ?_
  refine z_aload_n X dL_law_339 rfl 1 rfl ?_
  refine z_aload_n X dL_law_340 rfl 3 rfl ?_
  refine z_iload_n X dL_law_341 rfl 0 rfl ?_
  refine z_iconst (v := 1) X dL_law_342 (by decide) ?_
  refine z_iadd X dL_law_343 ?_
  refine z_sld X Y hi.1 dL_law_344 ?_
  refine z_aload_n X dL_law_345 rfl 3 rfl ?_
  refine z_iload_n X dL_law_346 rfl 0 rfl ?_
  refine z_iconst (v := 2) X dL_law_347 (by decide) ?_
  refine z_iadd X dL_law_348 ?_
  refine z_sld X Y hi.2.1 dL_law_349 ?_
  refine z_aload_n X dL_law_350 rfl 3 rfl ?_
  refine z_iload_n X dL_law_351 rfl 0 rfl ?_
  refine z_iconst (v := 3) X dL_law_352 (by decide) ?_
  refine z_iadd X dL_law_353 ?_
  refine z_sld X Y hi.2.2.1 dL_law_354 ?_
  refine gc_L_40 (st := [.int o]) X (mtX7_blank κ.2.1 κ.2.2.2.2.2.2.2.2.2.2.1 G e2) rfl rfl (Nat.le_of_ble_eq_true rfl) (Nat.le_of_ble_eq_true rfl) (Nat.le_of_ble_eq_true rfl) dL_law_355 ?_
  exact z_icmp_eq (tgt := 995) X dL_law_358 (by decide) (fun _ => k M2 F hR2) (fun h => absurd rfl h)
/-- put -/
theorem lc_6 (X : zCx κ G cL_law (cd :: wsL_law) RL ret 11 412) (Y : zSc κ b L xs) (hR : Rl M) (hi : lIn i L) (k : ∀ M' F', Rl M' → zV κ G 995 [(3, .int i), (2, .ref (G.1 60)), (1, .ref (G.1 0)), (0, .ref b)] [] M' F') : zV κ G 363 [(3, .int i), (2, .ref (G.1 60)), (1, .ref (G.1 0)), (0, .ref b)] [] M F := by
  obtain ⟨o, M1, M2, e1, e2, hR2⟩ := st_put hR (xs (i + 1).toNatClampNeg) (xs (i + 2).toNatClampNeg) (xs (i + 3).toNatClampNeg)
  refine z_aload_n X dL_law_363 rfl 2 rfl ?_
  refine z_aload_n X dL_law_364 rfl 3 rfl ?_
  refine z_iload_n X dL_law_365 rfl 0 rfl ?_
  refine z_iconst (v := 1) X dL_law_366 (by decide) ?_
  refine z_iadd X dL_law_367 ?_
  refine z_sld X Y hi.1 dL_law_368 ?_
  refine z_aload_n X dL_law_369 rfl 3 rfl ?_
  refine z_iload_n X dL_law_370 rfl 0 rfl ?_
  refine z_iconst (v := 2) X dL_law_371 (by decide) ?_
  refine z_iadd X dL_law_372 ?_
  refine z_sld X Y hi.2.1 dL_law_373 ?_
  refine z_aload_n X dL_law_374 rfl 3 rfl ?_
  refine z_iload_n X dL_law_375 rfl 0 rfl ?_
  refine z_iconst (v := 3) X dL_law_376 (by decide) ?_
  refine z_iadd X dL_law_377 ?_
  refine z_sld X Y hi.2.2.1 dL_law_378 ?_
  refine gc_L_41 (st := []) X (mtX6_put κ.2.1 κ.2.2.2.2.2.2.2.2.2.2.1 G e1) rfl rfl (Nat.le_of_ble_eq_true rfl) (Nat.le_of_ble_eq_true rfl) (Nat.le_of_ble_eq_true rfl) dL_law_379 ?_
  refine z_aload_n X dL_law_382 rfl 1 rfl ?_
  refine z_aload_n X dL_law_383 rfl 3 rfl ?_
  refine z_iload_n X dL_law_384 rfl 0 rfl ?_
  refine z_iconst (v := 1) X dL_law_385 (by decide) ?_
  refine z_iadd X dL_law_386 ?_
  refine z_sld X Y hi.1 dL_law_387 ?_
  refine z_aload_n X dL_law_388 rfl 3 rfl ?_
  refine z_iload_n X dL_law_389 rfl 0 rfl ?_
  refine z_iconst (v := 2) X dL_law_390 (by decide) ?_
  refine z_iadd X dL_law_391 ?_
  refine z_sld X Y hi.2.1 dL_law_392 ?_
  refine z_aload_n X dL_law_393 rfl 3 rfl ?_
  refine z_iload_n X dL_law_394 rfl 0 rfl ?_
  refine z_iconst (v := 3) X dL_law_395 (by decide) ?_
  refine z_iadd X dL_law_396 ?_
  refine z_sld X Y hi.2.2.1 dL_law_397 ?_
  refine gc_L_44 (st := [.int o]) X (mtX7_put κ.2.1 κ.2.2.2.2.2.2.2.2.2.2.1 G e2) rfl rfl (Nat.le_of_ble_eq_true rfl) (Nat.le_of_ble_eq_true rfl) (Nat.le_of_ble_eq_true rfl) dL_law_398 ?_
  exact z_icmp_eq (tgt := 995) X dL_law_401 (by decide) (fun _ => k M2 F hR2) (fun h => absurd rfl h)
/-- get -/
theorem lc_7 (X : zCx κ G cL_law (cd :: wsL_law) RL ret 11 412) (Y : zSc κ b L xs) (hR : Rl M) (hi : lIn i L) (k : ∀ M' F', Rl M' → zV κ G 995 [(3, .int i), (2, .ref (G.1 60)), (1, .ref (G.1 0)), (0, .ref b)] [] M' F') : zV κ G 406 [(3, .int i), (2, .ref (G.1 60)), (1, .ref (G.1 0)), (0, .ref b)] [] M F := by
  obtain ⟨o, M1, M2, e1, e2, hR2⟩ := st_get hR (xs (i + 1).toNatClampNeg) (xs (i + 2).toNatClampNeg)
  refine z_aload_n X dL_law_406 rfl 2 rfl ?_
  refine z_aload_n X dL_law_407 rfl 3 rfl ?_
  refine z_iload_n X dL_law_408 rfl 0 rfl ?_
  refine z_iconst (v := 1) X dL_law_409 (by decide) ?_
  refine z_iadd X dL_law_410 ?_
  refine z_sld X Y hi.1 dL_law_411 ?_
  refine z_aload_n X dL_law_412 rfl 3 rfl ?_
  refine z_iload_n X dL_law_413 rfl 0 rfl ?_
  refine z_iconst (v := 2) X dL_law_414 (by decide) ?_
  refine z_iadd X dL_law_415 ?_
  refine z_sld X Y hi.2.1 dL_law_416 ?_
  refine gc_L_45 (st := []) X (mtX6_get κ.2.1 κ.2.2.2.2.2.2.2.2.2.2.1 G e1) rfl rfl (Nat.le_of_ble_eq_true rfl) (Nat.le_of_ble_eq_true rfl) (Nat.le_of_ble_eq_true rfl) dL_law_417 ?_
  refine z_aload_n X dL_law_420 rfl 1 rfl ?_
  refine z_aload_n X dL_law_421 rfl 3 rfl ?_
  refine z_iload_n X dL_law_422 rfl 0 rfl ?_
  refine z_iconst (v := 1) X dL_law_423 (by decide) ?_
  refine z_iadd X dL_law_424 ?_
  refine z_sld X Y hi.1 dL_law_425 ?_
  refine z_aload_n X dL_law_426 rfl 3 rfl ?_
  refine z_iload_n X dL_law_427 rfl 0 rfl ?_
  refine z_iconst (v := 2) X dL_law_428 (by decide) ?_
  refine z_iadd X dL_law_429 ?_
  refine z_sld X Y hi.2.1 dL_law_430 ?_
  refine gc_L_49 (st := [.long o]) X (mtX7_get κ.2.1 κ.2.2.2.2.2.2.2.2.2.2.1 G e2) rfl rfl (Nat.le_of_ble_eq_true rfl) (Nat.le_of_ble_eq_true rfl) (Nat.le_of_ble_eq_true rfl) dL_law_431 ?_
  refine z_lcmp X dL_law_434 ?_
  exact z_if_eq (tgt := 995) X dL_law_435 (by decide) (fun _ => k M2 F hR2) (fun h => absurd (by rw [lg_cmp_eq]) h)
/-- copy -/
theorem lc_8 (X : zCx κ G cL_law (cd :: wsL_law) RL ret 11 412) (Y : zSc κ b L xs) (hR : Rl M) (hi : lIn i L) (k : ∀ M' F', Rl M' → zV κ G 995 [(3, .int i), (2, .ref (G.1 60)), (1, .ref (G.1 0)), (0, .ref b)] [] M' F') : zV κ G 440 [(3, .int i), (2, .ref (G.1 60)), (1, .ref (G.1 0)), (0, .ref b)] [] M F := by
  obtain ⟨o, M1, M2, e1, e2, hR2⟩ := st_copy hR (xs (i + 1).toNatClampNeg) (xs (i + 2).toNatClampNeg) (xs (i + 3).toNatClampNeg) (xs (i + 4).toNatClampNeg) (xs (i + 5).toNatClampNeg)
  refine z_aload_n X dL_law_440 rfl 2 rfl ?_
  refine z_aload_n X dL_law_441 rfl 3 rfl ?_
  refine z_iload_n X dL_law_442 rfl 0 rfl ?_
  refine z_iconst (v := 1) X dL_law_443 (by decide) ?_
  refine z_iadd X dL_law_444 ?_
  refine z_sld X Y hi.1 dL_law_445 ?_
  refine z_aload_n X dL_law_446 rfl 3 rfl ?_
  refine z_iload_n X dL_law_447 rfl 0 rfl ?_
  refine z_iconst (v := 2) X dL_law_448 (by decide) ?_
  refine z_iadd X dL_law_449 ?_
  refine z_sld X Y hi.2.1 dL_law_450 ?_
  refine z_aload_n X dL_law_451 rfl 3 rfl ?_
  refine z_iload_n X dL_law_452 rfl 0 rfl ?_
  refine z_iconst (v := 3) X dL_law_453 (by decide) ?_
  refine z_iadd X dL_law_454 ?_
  refine z_sld X Y hi.2.2.1 dL_law_455 ?_
  refine z_aload_n X dL_law_456 rfl 3 rfl ?_
  refine z_iload_n X dL_law_457 rfl 0 rfl ?_
  refine z_iconst (v := 4) X dL_law_458 (by decide) ?_
  refine z_iadd X dL_law_459 ?_
  refine z_sld X Y hi.2.2.2.1 dL_law_460 ?_
  refine z_aload_n X dL_law_461 rfl 3 rfl ?_
  refine z_iload_n X dL_law_462 rfl 0 rfl ?_
  refine z_iconst (v := 5) X dL_law_463 (by decide) ?_
  refine z_iadd X dL_law_464 ?_
  refine z_sld X Y hi.2.2.2.2 dL_law_465 ?_
  refine gc_L_50 (st := []) X (mtX6_copy κ.2.1 κ.2.2.2.2.2.2.2.2.2.2.1 G e1) rfl rfl (Nat.le_of_ble_eq_true rfl) (Nat.le_of_ble_eq_true rfl) (Nat.le_of_ble_eq_true rfl) dL_law_466 ?_
  refine z_aload_n X dL_law_469 rfl 1 rfl ?_
  refine z_aload_n X dL_law_470 rfl 3 rfl ?_
  refine z_iload_n X dL_law_471 rfl 0 rfl ?_
  refine z_iconst (v := 1) X dL_law_472 (by decide) ?_
  refine z_iadd X dL_law_473 ?_
  refine z_sld X Y hi.1 dL_law_474 ?_
  refine z_aload_n X dL_law_475 rfl 3 rfl ?_
  refine z_iload_n X dL_law_476 rfl 0 rfl ?_
  refine z_iconst (v := 2) X dL_law_477 (by decide) ?_
  refine z_iadd X dL_law_478 ?_
  refine z_sld X Y hi.2.1 dL_law_479 ?_
  refine z_aload_n X dL_law_480 rfl 3 rfl ?_
  refine z_iload_n X dL_law_481 rfl 0 rfl ?_
  refine z_iconst (v := 3) X dL_law_482 (by decide) ?_
  refine z_iadd X dL_law_483 ?_
  refine z_sld X Y hi.2.2.1 dL_law_484 ?_
  refine z_aload_n X dL_law_485 rfl 3 rfl ?_
  refine z_iload_n X dL_law_486 rfl 0 rfl ?_
  refine z_iconst (v := 4) X dL_law_487 (by decide) ?_
  refine z_iadd X dL_law_488 ?_
  refine z_sld X Y hi.2.2.2.1 dL_law_489 ?_
  refine z_aload_n X dL_law_490 rfl 3 rfl ?_
  refine z_iload_n X dL_law_491 rfl 0 rfl ?_
  refine z_iconst (v := 5) X dL_law_492 (by decide) ?_
  refine z_iadd X dL_law_493 ?_
  refine z_sld X Y hi.2.2.2.2 dL_law_494 ?_
  refine gc_L_54 (st := [.int o]) X (mtX7_copy κ.2.1 κ.2.2.2.2.2.2.2.2.2.2.1 G e2) rfl rfl (Nat.le_of_ble_eq_true rfl) (Nat.le_of_ble_eq_true rfl) (Nat.le_of_ble_eq_true rfl) dL_law_495 ?_
  exact z_icmp_eq (tgt := 995) X dL_law_498 (by decide) (fun _ => k M2 F hR2) (fun h => absurd rfl h)
/-- lose -/
theorem lc_9 (X : zCx κ G cL_law (cd :: wsL_law) RL ret 11 412) (Y : zSc κ b L xs) (hR : Rl M) (hi : lIn i L) (k : ∀ M' F', Rl M' → zV κ G 995 [(3, .int i), (2, .ref (G.1 60)), (1, .ref (G.1 0)), (0, .ref b)] [] M' F') : zV κ G 503 [(3, .int i), (2, .ref (G.1 60)), (1, .ref (G.1 0)), (0, .ref b)] [] M F := by
  obtain ⟨o, M1, M2, e1, e2, hR2⟩ := st_lose hR (xs (i + 1).toNatClampNeg)
  refine z_aload_n X dL_law_503 rfl 2 rfl ?_
  refine z_aload_n X dL_law_504 rfl 3 rfl ?_
  refine z_iload_n X dL_law_505 rfl 0 rfl ?_
  refine z_iconst (v := 1) X dL_law_506 (by decide) ?_
  refine z_iadd X dL_law_507 ?_
  refine z_sld X Y hi.1 dL_law_508 ?_
  refine gc_L_55 (st := []) X (mtX6_lose κ.2.1 κ.2.2.2.2.2.2.2.2.2.2.1 G e1) rfl rfl (Nat.le_of_ble_eq_true rfl) (Nat.le_of_ble_eq_true rfl) (Nat.le_of_ble_eq_true rfl) dL_law_509 ?_
  refine z_aload_n X dL_law_512 rfl 1 rfl ?_
  refine z_aload_n X dL_law_513 rfl 3 rfl ?_
  refine z_iload_n X dL_law_514 rfl 0 rfl ?_
  refine z_iconst (v := 1) X dL_law_515 (by decide) ?_
  refine z_iadd X dL_law_516 ?_
  refine z_sld X Y hi.1 dL_law_517 ?_
  refine gc_L_58 (st := [.int o]) X (mtX7_lose κ.2.1 κ.2.2.2.2.2.2.2.2.2.2.1 G e2) rfl rfl (Nat.le_of_ble_eq_true rfl) (Nat.le_of_ble_eq_true rfl) (Nat.le_of_ble_eq_true rfl) dL_law_518 ?_
  exact z_icmp_eq (tgt := 995) X dL_law_521 (by decide) (fun _ => k M2 F hR2) (fun h => absurd rfl h)
/-- shift -/
theorem lc_10 (X : zCx κ G cL_law (cd :: wsL_law) RL ret 11 412) (Y : zSc κ b L xs) (hR : Rl M) (hi : lIn i L) (k : ∀ M' F', Rl M' → zV κ G 995 [(3, .int i), (2, .ref (G.1 60)), (1, .ref (G.1 0)), (0, .ref b)] [] M' F') : zV κ G 526 [(3, .int i), (2, .ref (G.1 60)), (1, .ref (G.1 0)), (0, .ref b)] [] M F := by
  obtain ⟨o, e1, e2⟩ := st_shift hR (xs (i + 1).toNatClampNeg) (xs (i + 2).toNatClampNeg) (xs (i + 3).toNatClampNeg)
  refine z_aload_n X dL_law_526 rfl 2 rfl ?_
  refine z_aload_n X dL_law_527 rfl 3 rfl ?_
  refine z_iload_n X dL_law_528 rfl 0 rfl ?_
  refine z_iconst (v := 1) X dL_law_529 (by decide) ?_
  refine z_iadd X dL_law_530 ?_
  refine z_sld X Y hi.1 dL_law_531 ?_
  refine z_aload_n X dL_law_532 rfl 3 rfl ?_
  refine z_iload_n X dL_law_533 rfl 0 rfl ?_
  refine z_iconst (v := 2) X dL_law_534 (by decide) ?_
  refine z_iadd X dL_law_535 ?_
  refine z_sld X Y hi.2.1 dL_law_536 ?_
  refine z_aload_n X dL_law_537 rfl 3 rfl ?_
  refine z_iload_n X dL_law_538 rfl 0 rfl ?_
  refine z_iconst (v := 3) X dL_law_539 (by decide) ?_
  refine z_iadd X dL_law_540 ?_
  refine z_sld X Y hi.2.2.1 dL_law_541 ?_
  refine gc_L_59 (st := []) X (mtX6_shift κ.2.1 κ.2.2.2.2.2.2.2.2.2.2.1 G e1) rfl rfl (Nat.le_of_ble_eq_true rfl) (Nat.le_of_ble_eq_true rfl) (Nat.le_of_ble_eq_true rfl) dL_law_542 ?_
  refine z_aload_n X dL_law_545 rfl 1 rfl ?_
  refine z_aload_n X dL_law_546 rfl 3 rfl ?_
  refine z_iload_n X dL_law_547 rfl 0 rfl ?_
  refine z_iconst (v := 1) X dL_law_548 (by decide) ?_
  refine z_iadd X dL_law_549 ?_
  refine z_sld X Y hi.1 dL_law_550 ?_
  refine z_aload_n X dL_law_551 rfl 3 rfl ?_
  refine z_iload_n X dL_law_552 rfl 0 rfl ?_
  refine z_iconst (v := 2) X dL_law_553 (by decide) ?_
  refine z_iadd X dL_law_554 ?_
  refine z_sld X Y hi.2.1 dL_law_555 ?_
  refine z_aload_n X dL_law_556 rfl 3 rfl ?_
  refine z_iload_n X dL_law_557 rfl 0 rfl ?_
  refine z_iconst (v := 3) X dL_law_558 (by decide) ?_
  refine z_iadd X dL_law_559 ?_
  refine z_sld X Y hi.2.2.1 dL_law_560 ?_
  refine gc_L_62 (st := [.int o]) X (mtX7_shift κ.2.1 κ.2.2.2.2.2.2.2.2.2.2.1 G e2) rfl rfl (Nat.le_of_ble_eq_true rfl) (Nat.le_of_ble_eq_true rfl) (Nat.le_of_ble_eq_true rfl) dL_law_561 ?_
  exact z_icmp_eq (tgt := 995) X dL_law_564 (by decide) (fun _ => k M F hR) (fun h => absurd rfl h)
/-- profile -/
theorem lc_11 (X : zCx κ G cL_law (cd :: wsL_law) RL ret 11 412) (Y : zSc κ b L xs) (hR : Rl M) (hi : lIn i L) (k : ∀ M' F', Rl M' → zV κ G 995 [(3, .int i), (2, .ref (G.1 60)), (1, .ref (G.1 0)), (0, .ref b)] [] M' F') : zV κ G 569 [(3, .int i), (2, .ref (G.1 60)), (1, .ref (G.1 0)), (0, .ref b)] [] M F := by
  obtain ⟨o, M1, M2, e1, e2, hR2⟩ := st_profile hR (xs (i + 1).toNatClampNeg) (xs (i + 2).toNatClampNeg) (xs (i + 3).toNatClampNeg)
  refine z_aload_n X dL_law_569 rfl 2 rfl ?_
  refine z_aload_n X dL_law_570 rfl 3 rfl ?_
  refine z_iload_n X dL_law_571 rfl 0 rfl ?_
  refine z_iconst (v := 1) X dL_law_572 (by decide) ?_
  refine z_iadd X dL_law_573 ?_
  refine z_sld X Y hi.1 dL_law_574 ?_
  refine z_aload_n X dL_law_575 rfl 3 rfl ?_
  refine z_iload_n X dL_law_576 rfl 0 rfl ?_
  refine z_iconst (v := 2) X dL_law_577 (by decide) ?_
  refine z_iadd X dL_law_578 ?_
  refine z_sld X Y hi.2.1 dL_law_579 ?_
  refine z_aload_n X dL_law_580 rfl 3 rfl ?_
  refine z_iload_n X dL_law_581 rfl 0 rfl ?_
  refine z_iconst (v := 3) X dL_law_582 (by decide) ?_
  refine z_iadd X dL_law_583 ?_
  refine z_sld X Y hi.2.2.1 dL_law_584 ?_
  refine gc_L_63 (st := []) X (mtX6_profile κ.2.1 κ.2.2.2.2.2.2.2.2.2.2.1 G e1) rfl rfl (Nat.le_of_ble_eq_true rfl) (Nat.le_of_ble_eq_true rfl) (Nat.le_of_ble_eq_true rfl) dL_law_585 ?_
  refine z_aload_n X dL_law_588 rfl 1 rfl ?_
  refine z_aload_n X dL_law_589 rfl 3 rfl ?_
  refine z_iload_n X dL_law_590 rfl 0 rfl ?_
  refine z_iconst (v := 1) X dL_law_591 (by decide) ?_
  refine z_iadd X dL_law_592 ?_
  refine z_sld X Y hi.1 dL_law_593 ?_
  refine z_aload_n X dL_law_594 rfl 3 rfl ?_
  refine z_iload_n X dL_law_595 rfl 0 rfl ?_
  refine z_iconst (v := 2) X dL_law_596 (by decide) ?_
  refine z_iadd X dL_law_597 ?_
  refine z_sld X Y hi.2.1 dL_law_598 ?_
  refine z_aload_n X dL_law_599 rfl 3 rfl ?_
  refine z_iload_n X dL_law_600 rfl 0 rfl ?_
  refine z_iconst (v := 3) X dL_law_601 (by decide) ?_
  refine z_iadd X dL_law_602 ?_
  refine z_sld X Y hi.2.2.1 dL_law_603 ?_
  refine gc_L_66 (st := [.int o]) X (mtX7_profile κ.2.1 κ.2.2.2.2.2.2.2.2.2.2.1 G e2) rfl rfl (Nat.le_of_ble_eq_true rfl) (Nat.le_of_ble_eq_true rfl) (Nat.le_of_ble_eq_true rfl) dL_law_604 ?_
  exact z_icmp_eq (tgt := 995) X dL_law_607 (by decide) (fun _ => k M2 F hR2) (fun h => absurd rfl h)
/-- sharp -/
theorem lc_12 (X : zCx κ G cL_law (cd :: wsL_law) RL ret 11 412) (Y : zSc κ b L xs) (hR : Rl M) (hi : lIn i L) (k : ∀ M' F', Rl M' → zV κ G 995 [(3, .int i), (2, .ref (G.1 60)), (1, .ref (G.1 0)), (0, .ref b)] [] M' F') : zV κ G 612 [(3, .int i), (2, .ref (G.1 60)), (1, .ref (G.1 0)), (0, .ref b)] [] M F := by
  obtain ⟨o, M1, M2, e1, e2, hR2⟩ := st_sharp hR (xs (i + 1).toNatClampNeg) (xs (i + 2).toNatClampNeg)
  refine z_aload_n X dL_law_612 rfl 2 rfl ?_
  refine z_aload_n X dL_law_613 rfl 3 rfl ?_
  refine z_iload_n X dL_law_614 rfl 0 rfl ?_
  refine z_iconst (v := 1) X dL_law_615 (by decide) ?_
  refine z_iadd X dL_law_616 ?_
  refine z_sld X Y hi.1 dL_law_617 ?_
  refine z_aload_n X dL_law_618 rfl 3 rfl ?_
  refine z_iload_n X dL_law_619 rfl 0 rfl ?_
  refine z_iconst (v := 2) X dL_law_620 (by decide) ?_
  refine z_iadd X dL_law_621 ?_
  refine z_sld X Y hi.2.1 dL_law_622 ?_
  refine gc_L_67 (st := []) X (mtX6_sharp κ.2.1 κ.2.2.2.2.2.2.2.2.2.2.1 G e1) rfl rfl (Nat.le_of_ble_eq_true rfl) (Nat.le_of_ble_eq_true rfl) (Nat.le_of_ble_eq_true rfl) dL_law_623 ?_
  refine z_aload_n X dL_law_626 rfl 1 rfl ?_
  refine z_aload_n X dL_law_627 rfl 3 rfl ?_
  refine z_iload_n X dL_law_628 rfl 0 rfl ?_
  refine z_iconst (v := 1) X dL_law_629 (by decide) ?_
  refine z_iadd X dL_law_630 ?_
  refine z_sld X Y hi.1 dL_law_631 ?_
  refine z_aload_n X dL_law_632 rfl 3 rfl ?_
  refine z_iload_n X dL_law_633 rfl 0 rfl ?_
  refine z_iconst (v := 2) X dL_law_634 (by decide) ?_
  refine z_iadd X dL_law_635 ?_
  refine z_sld X Y hi.2.1 dL_law_636 ?_
  refine gc_L_70 (st := [.int o]) X (mtX7_sharp κ.2.1 κ.2.2.2.2.2.2.2.2.2.2.1 G e2) rfl rfl (Nat.le_of_ble_eq_true rfl) (Nat.le_of_ble_eq_true rfl) (Nat.le_of_ble_eq_true rfl) dL_law_637 ?_
  exact z_icmp_eq (tgt := 995) X dL_law_640 (by decide) (fun _ => k M2 F hR2) (fun h => absurd rfl h)
/-- best -/
theorem lc_13 (X : zCx κ G cL_law (cd :: wsL_law) RL ret 11 412) (Y : zSc κ b L xs) (hR : Rl M) (hi : lIn i L) (k : ∀ M' F', Rl M' → zV κ G 995 [(3, .int i), (2, .ref (G.1 60)), (1, .ref (G.1 0)), (0, .ref b)] [] M' F') : zV κ G 645 [(3, .int i), (2, .ref (G.1 60)), (1, .ref (G.1 0)), (0, .ref b)] [] M F := by
  obtain ⟨o, M1, M2, e1, e2, hR2⟩ := st_best hR (xs (i + 1).toNatClampNeg)
  refine z_aload_n X dL_law_645 rfl 2 rfl ?_
  refine z_aload_n X dL_law_646 rfl 3 rfl ?_
  refine z_iload_n X dL_law_647 rfl 0 rfl ?_
  refine z_iconst (v := 1) X dL_law_648 (by decide) ?_
  refine z_iadd X dL_law_649 ?_
  refine z_sld X Y hi.1 dL_law_650 ?_
  refine gc_L_71 (st := []) X (mtX6_best κ.2.1 κ.2.2.2.2.2.2.2.2.2.2.1 G e1) rfl rfl (Nat.le_of_ble_eq_true rfl) (Nat.le_of_ble_eq_true rfl) (Nat.le_of_ble_eq_true rfl) dL_law_651 ?_
  refine z_aload_n X dL_law_654 rfl 1 rfl ?_
  refine z_aload_n X dL_law_655 rfl 3 rfl ?_
  refine z_iload_n X dL_law_656 rfl 0 rfl ?_
  refine z_iconst (v := 1) X dL_law_657 (by decide) ?_
  refine z_iadd X dL_law_658 ?_
  refine z_sld X Y hi.1 dL_law_659 ?_
  refine gc_L_74 (st := [.int o]) X (mtX7_best κ.2.1 κ.2.2.2.2.2.2.2.2.2.2.1 G e2) rfl rfl (Nat.le_of_ble_eq_true rfl) (Nat.le_of_ble_eq_true rfl) (Nat.le_of_ble_eq_true rfl) dL_law_660 ?_
  exact z_icmp_eq (tgt := 995) X dL_law_663 (by decide) (fun _ => k M2 F hR2) (fun h => absurd rfl h)
/-- found -/
theorem lc_14 (X : zCx κ G cL_law (cd :: wsL_law) RL ret 11 412) (Y : zSc κ b L xs) (hR : Rl M) (hi : lIn i L) (k : ∀ M' F', Rl M' → zV κ G 995 [(3, .int i), (2, .ref (G.1 60)), (1, .ref (G.1 0)), (0, .ref b)] [] M' F') : zV κ G 668 [(3, .int i), (2, .ref (G.1 60)), (1, .ref (G.1 0)), (0, .ref b)] [] M F := by
  obtain ⟨o, M1, M2, e1, e2, hR2⟩ := st_found hR (xs (i + 1).toNatClampNeg)
  refine z_aload_n X dL_law_668 rfl 2 rfl ?_
  refine z_aload_n X dL_law_669 rfl 3 rfl ?_
  refine z_iload_n X dL_law_670 rfl 0 rfl ?_
  refine z_iconst (v := 1) X dL_law_671 (by decide) ?_
  refine z_iadd X dL_law_672 ?_
  refine z_sld X Y hi.1 dL_law_673 ?_
  refine gc_L_75 (st := []) X (mtX6_found κ.2.1 κ.2.2.2.2.2.2.2.2.2.2.1 G e1) rfl rfl (Nat.le_of_ble_eq_true rfl) (Nat.le_of_ble_eq_true rfl) (Nat.le_of_ble_eq_true rfl) dL_law_674 ?_
  refine z_aload_n X dL_law_677 rfl 1 rfl ?_
  refine z_aload_n X dL_law_678 rfl 3 rfl ?_
  refine z_iload_n X dL_law_679 rfl 0 rfl ?_
  refine z_iconst (v := 1) X dL_law_680 (by decide) ?_
  refine z_iadd X dL_law_681 ?_
  refine z_sld X Y hi.1 dL_law_682 ?_
  refine gc_L_78 (st := [.int o]) X (mtX7_found κ.2.1 κ.2.2.2.2.2.2.2.2.2.2.1 G e2) rfl rfl (Nat.le_of_ble_eq_true rfl) (Nat.le_of_ble_eq_true rfl) (Nat.le_of_ble_eq_true rfl) dL_law_683 ?_
  exact z_icmp_eq (tgt := 995) X dL_law_686 (by decide) (fun _ => k M2 F hR2) (fun h => absurd rfl h)
/-- tried -/
theorem lc_15 (X : zCx κ G cL_law (cd :: wsL_law) RL ret 11 412) (Y : zSc κ b L xs) (hR : Rl M) (hi : lIn i L) (k : ∀ M' F', Rl M' → zV κ G 995 [(3, .int i), (2, .ref (G.1 60)), (1, .ref (G.1 0)), (0, .ref b)] [] M' F') : zV κ G 691 [(3, .int i), (2, .ref (G.1 60)), (1, .ref (G.1 0)), (0, .ref b)] [] M F := by
  obtain ⟨o, M1, M2, e1, e2, hR2⟩ := st_tried hR (xs (i + 1).toNatClampNeg) (xs (i + 2).toNatClampNeg)
  refine z_aload_n X dL_law_691 rfl 2 rfl ?_
  refine z_aload_n X dL_law_692 rfl 3 rfl ?_
  refine z_iload_n X dL_law_693 rfl 0 rfl ?_
  refine z_iconst (v := 1) X dL_law_694 (by decide) ?_
  refine z_iadd X dL_law_695 ?_
  refine z_sld X Y hi.1 dL_law_696 ?_
  refine z_aload_n X dL_law_697 rfl 3 rfl ?_
  refine z_iload_n X dL_law_698 rfl 0 rfl ?_
  refine z_iconst (v := 2) X dL_law_699 (by decide) ?_
  refine z_iadd X dL_law_700 ?_
  refine z_sld X Y hi.2.1 dL_law_701 ?_
  refine gc_L_79 (st := []) X (mtX6_tried κ.2.1 κ.2.2.2.2.2.2.2.2.2.2.1 G e1) rfl rfl (Nat.le_of_ble_eq_true rfl) (Nat.le_of_ble_eq_true rfl) (Nat.le_of_ble_eq_true rfl) dL_law_702 ?_
  refine z_aload_n X dL_law_705 rfl 1 rfl ?_
  refine z_aload_n X dL_law_706 rfl 3 rfl ?_
  refine z_iload_n X dL_law_707 rfl 0 rfl ?_
  refine z_iconst (v := 1) X dL_law_708 (by decide) ?_
  refine z_iadd X dL_law_709 ?_
  refine z_sld X Y hi.1 dL_law_710 ?_
  refine z_aload_n X dL_law_711 rfl 3 rfl ?_
  refine z_iload_n X dL_law_712 rfl 0 rfl ?_
  refine z_iconst (v := 2) X dL_law_713 (by decide) ?_
  refine z_iadd X dL_law_714 ?_
  refine z_sld X Y hi.2.1 dL_law_715 ?_
  refine gc_L_82 (st := [.int o]) X (mtX7_tried κ.2.1 κ.2.2.2.2.2.2.2.2.2.2.1 G e2) rfl rfl (Nat.le_of_ble_eq_true rfl) (Nat.le_of_ble_eq_true rfl) (Nat.le_of_ble_eq_true rfl) dL_law_716 ?_
  exact z_icmp_eq (tgt := 995) X dL_law_719 (by decide) (fun _ => k M2 F hR2) (fun h => absurd rfl h)
/-- shear -/
theorem lc_16 (X : zCx κ G cL_law (cd :: wsL_law) RL ret 11 412) (Y : zSc κ b L xs) (hR : Rl M) (hi : lIn i L) (k : ∀ M' F', Rl M' → zV κ G 995 [(3, .int i), (2, .ref (G.1 60)), (1, .ref (G.1 0)), (0, .ref b)] [] M' F') : zV κ G 724 [(3, .int i), (2, .ref (G.1 60)), (1, .ref (G.1 0)), (0, .ref b)] [] M F := by
  obtain ⟨o, M1, M2, e1, e2, hR2⟩ := st_shear hR (xs (i + 1).toNatClampNeg) (xs (i + 2).toNatClampNeg)
  refine z_aload_n X dL_law_724 rfl 2 rfl ?_
  refine z_aload_n X dL_law_725 rfl 3 rfl ?_
  refine z_iload_n X dL_law_726 rfl 0 rfl ?_
  refine z_iconst (v := 1) X dL_law_727 (by decide) ?_
  refine z_iadd X dL_law_728 ?_
  refine z_sld X Y hi.1 dL_law_729 ?_
  refine z_aload_n X dL_law_730 rfl 3 rfl ?_
  refine z_iload_n X dL_law_731 rfl 0 rfl ?_
  refine z_iconst (v := 2) X dL_law_732 (by decide) ?_
  refine z_iadd X dL_law_733 ?_
  refine z_sld X Y hi.2.1 dL_law_734 ?_
  refine gc_L_83 (st := []) X (mtX6_shear κ.2.1 κ.2.2.2.2.2.2.2.2.2.2.1 G e1) rfl rfl (Nat.le_of_ble_eq_true rfl) (Nat.le_of_ble_eq_true rfl) (Nat.le_of_ble_eq_true rfl) dL_law_735 ?_
  refine z_aload_n X dL_law_738 rfl 1 rfl ?_
  refine z_aload_n X dL_law_739 rfl 3 rfl ?_
  refine z_iload_n X dL_law_740 rfl 0 rfl ?_
  refine z_iconst (v := 1) X dL_law_741 (by decide) ?_
  refine z_iadd X dL_law_742 ?_
  refine z_sld X Y hi.1 dL_law_743 ?_
  refine z_aload_n X dL_law_744 rfl 3 rfl ?_
  refine z_iload_n X dL_law_745 rfl 0 rfl ?_
  refine z_iconst (v := 2) X dL_law_746 (by decide) ?_
  refine z_iadd X dL_law_747 ?_
  refine z_sld X Y hi.2.1 dL_law_748 ?_
  refine gc_L_86 (st := [.int o]) X (mtX7_shear κ.2.1 κ.2.2.2.2.2.2.2.2.2.2.1 G e2) rfl rfl (Nat.le_of_ble_eq_true rfl) (Nat.le_of_ble_eq_true rfl) (Nat.le_of_ble_eq_true rfl) dL_law_749 ?_
  exact z_icmp_eq (tgt := 995) X dL_law_752 (by decide) (fun _ => k M2 F hR2) (fun h => absurd rfl h)
/-- run -/
theorem lc_17 (X : zCx κ G cL_law (cd :: wsL_law) RL ret 11 412) (Y : zSc κ b L xs) (hR : Rl M) (hi : lIn i L) (k : ∀ M' F', Rl M' → zV κ G 995 [(3, .int i), (2, .ref (G.1 60)), (1, .ref (G.1 0)), (0, .ref b)] [] M' F') : zV κ G 757 [(3, .int i), (2, .ref (G.1 60)), (1, .ref (G.1 0)), (0, .ref b)] [] M F := by
  obtain ⟨o, M1, M2, e1, e2, hR2⟩ := st_run hR (xs (i + 1).toNatClampNeg) (xs (i + 2).toNatClampNeg)
  refine z_aload_n X dL_law_757 rfl 2 rfl ?_
  refine z_aload_n X dL_law_758 rfl 3 rfl ?_
  refine z_iload_n X dL_law_759 rfl 0 rfl ?_
  refine z_iconst (v := 1) X dL_law_760 (by decide) ?_
  refine z_iadd X dL_law_761 ?_
  refine z_sld X Y hi.1 dL_law_762 ?_
  refine z_aload_n X dL_law_763 rfl 3 rfl ?_
  refine z_iload_n X dL_law_764 rfl 0 rfl ?_
  refine z_iconst (v := 2) X dL_law_765 (by decide) ?_
  refine z_iadd X dL_law_766 ?_
  refine z_sld X Y hi.2.1 dL_law_767 ?_
  refine gc_L_87 (st := []) X (mtX6_run κ.2.1 κ.2.2.2.2.2.2.2.2.2.2.1 G e1) rfl rfl (Nat.le_of_ble_eq_true rfl) (Nat.le_of_ble_eq_true rfl) (Nat.le_of_ble_eq_true rfl) dL_law_768 ?_
  refine z_aload_n X dL_law_771 rfl 1 rfl ?_
  refine z_aload_n X dL_law_772 rfl 3 rfl ?_
  refine z_iload_n X dL_law_773 rfl 0 rfl ?_
  refine z_iconst (v := 1) X dL_law_774 (by decide) ?_
  refine z_iadd X dL_law_775 ?_
  refine z_sld X Y hi.1 dL_law_776 ?_
  refine z_aload_n X dL_law_777 rfl 3 rfl ?_
  refine z_iload_n X dL_law_778 rfl 0 rfl ?_
  refine z_iconst (v := 2) X dL_law_779 (by decide) ?_
  refine z_iadd X dL_law_780 ?_
  refine z_sld X Y hi.2.1 dL_law_781 ?_
  refine gc_L_90 (st := [.int o]) X (mtX7_run κ.2.1 κ.2.2.2.2.2.2.2.2.2.2.1 G e2) rfl rfl (Nat.le_of_ble_eq_true rfl) (Nat.le_of_ble_eq_true rfl) (Nat.le_of_ble_eq_true rfl) dL_law_782 ?_
  exact z_icmp_eq (tgt := 995) X dL_law_785 (by decide) (fun _ => k M2 F hR2) (fun h => absurd rfl h)
/-- stroke -/
theorem lc_18 (X : zCx κ G cL_law (cd :: wsL_law) RL ret 11 412) (Y : zSc κ b L xs) (hR : Rl M) (hi : lIn i L) (k : ∀ M' F', Rl M' → zV κ G 995 [(3, .int i), (2, .ref (G.1 60)), (1, .ref (G.1 0)), (0, .ref b)] [] M' F') : zV κ G 790 [(3, .int i), (2, .ref (G.1 60)), (1, .ref (G.1 0)), (0, .ref b)] [] M F := by
  obtain ⟨o, M1, M2, e1, e2, hR2⟩ := st_stroke hR (xs (i + 1).toNatClampNeg) (xs (i + 2).toNatClampNeg)
  refine z_aload_n X dL_law_790 rfl 2 rfl ?_
  refine z_aload_n X dL_law_791 rfl 3 rfl ?_
  refine z_iload_n X dL_law_792 rfl 0 rfl ?_
  refine z_iconst (v := 1) X dL_law_793 (by decide) ?_
  refine z_iadd X dL_law_794 ?_
  refine z_sld X Y hi.1 dL_law_795 ?_
  refine z_aload_n X dL_law_796 rfl 3 rfl ?_
  refine z_iload_n X dL_law_797 rfl 0 rfl ?_
  refine z_iconst (v := 2) X dL_law_798 (by decide) ?_
  refine z_iadd X dL_law_799 ?_
  refine z_sld X Y hi.2.1 dL_law_800 ?_
  refine gc_L_91 (st := []) X (mtX6_stroke κ.2.1 κ.2.2.2.2.2.2.2.2.2.2.1 G e1) rfl rfl (Nat.le_of_ble_eq_true rfl) (Nat.le_of_ble_eq_true rfl) (Nat.le_of_ble_eq_true rfl) dL_law_801 ?_
  refine z_aload_n X dL_law_804 rfl 1 rfl ?_
  refine z_aload_n X dL_law_805 rfl 3 rfl ?_
  refine z_iload_n X dL_law_806 rfl 0 rfl ?_
  refine z_iconst (v := 1) X dL_law_807 (by decide) ?_
  refine z_iadd X dL_law_808 ?_
  refine z_sld X Y hi.1 dL_law_809 ?_
  refine z_aload_n X dL_law_810 rfl 3 rfl ?_
  refine z_iload_n X dL_law_811 rfl 0 rfl ?_
  refine z_iconst (v := 2) X dL_law_812 (by decide) ?_
  refine z_iadd X dL_law_813 ?_
  refine z_sld X Y hi.2.1 dL_law_814 ?_
  refine gc_L_94 (st := [.int o]) X (mtX7_stroke κ.2.1 κ.2.2.2.2.2.2.2.2.2.2.1 G e2) rfl rfl (Nat.le_of_ble_eq_true rfl) (Nat.le_of_ble_eq_true rfl) (Nat.le_of_ble_eq_true rfl) dL_law_815 ?_
  exact z_icmp_eq (tgt := 995) X dL_law_818 (by decide) (fun _ => k M2 F hR2) (fun h => absurd rfl h)
/-- baseline -/
theorem lc_19 (X : zCx κ G cL_law (cd :: wsL_law) RL ret 11 412) (Y : zSc κ b L xs) (hR : Rl M) (hi : lIn i L) (k : ∀ M' F', Rl M' → zV κ G 995 [(3, .int i), (2, .ref (G.1 60)), (1, .ref (G.1 0)), (0, .ref b)] [] M' F') : zV κ G 823 [(3, .int i), (2, .ref (G.1 60)), (1, .ref (G.1 0)), (0, .ref b)] [] M F := by
  obtain ⟨o, M1, M2, e1, e2, hR2⟩ := st_baseline hR (xs (i + 1).toNatClampNeg)
  refine z_aload_n X dL_law_823 rfl 2 rfl ?_
  refine z_aload_n X dL_law_824 rfl 3 rfl ?_
  refine z_iload_n X dL_law_825 rfl 0 rfl ?_
  refine z_iconst (v := 1) X dL_law_826 (by decide) ?_
  refine z_iadd X dL_law_827 ?_
  refine z_sld X Y hi.1 dL_law_828 ?_
  refine gc_L_95 (st := []) X (mtX6_baseline κ.2.1 κ.2.2.2.2.2.2.2.2.2.2.1 G e1) rfl rfl (Nat.le_of_ble_eq_true rfl) (Nat.le_of_ble_eq_true rfl) (Nat.le_of_ble_eq_true rfl) dL_law_829 ?_
  refine z_aload_n X dL_law_832 rfl 1 rfl ?_
  refine z_aload_n X dL_law_833 rfl 3 rfl ?_
  refine z_iload_n X dL_law_834 rfl 0 rfl ?_
  refine z_iconst (v := 1) X dL_law_835 (by decide) ?_
  refine z_iadd X dL_law_836 ?_
  refine z_sld X Y hi.1 dL_law_837 ?_
  refine gc_L_98 (st := [.int o]) X (mtX7_baseline κ.2.1 κ.2.2.2.2.2.2.2.2.2.2.1 G e2) rfl rfl (Nat.le_of_ble_eq_true rfl) (Nat.le_of_ble_eq_true rfl) (Nat.le_of_ble_eq_true rfl) dL_law_838 ?_
  exact z_icmp_eq (tgt := 995) X dL_law_841 (by decide) (fun _ => k M2 F hR2) (fun h => absurd rfl h)
/-- foot -/
theorem lc_20 (X : zCx κ G cL_law (cd :: wsL_law) RL ret 11 412) (Y : zSc κ b L xs) (hR : Rl M) (hi : lIn i L) (k : ∀ M' F', Rl M' → zV κ G 995 [(3, .int i), (2, .ref (G.1 60)), (1, .ref (G.1 0)), (0, .ref b)] [] M' F') : zV κ G 846 [(3, .int i), (2, .ref (G.1 60)), (1, .ref (G.1 0)), (0, .ref b)] [] M F := by
  obtain ⟨o, M1, M2, e1, e2, hR2⟩ := st_foot hR (xs (i + 1).toNatClampNeg)
  refine z_aload_n X dL_law_846 rfl 2 rfl ?_
  refine z_aload_n X dL_law_847 rfl 3 rfl ?_
  refine z_iload_n X dL_law_848 rfl 0 rfl ?_
  refine z_iconst (v := 1) X dL_law_849 (by decide) ?_
  refine z_iadd X dL_law_850 ?_
  refine z_sld X Y hi.1 dL_law_851 ?_
  refine gc_L_99 (st := []) X (mtX6_foot κ.2.1 κ.2.2.2.2.2.2.2.2.2.2.1 G e1) rfl rfl (Nat.le_of_ble_eq_true rfl) (Nat.le_of_ble_eq_true rfl) (Nat.le_of_ble_eq_true rfl) dL_law_852 ?_
  refine z_aload_n X dL_law_855 rfl 1 rfl ?_
  refine z_aload_n X dL_law_856 rfl 3 rfl ?_
  refine z_iload_n X dL_law_857 rfl 0 rfl ?_
  refine z_iconst (v := 1) X dL_law_858 (by decide) ?_
  refine z_iadd X dL_law_859 ?_
  refine z_sld X Y hi.1 dL_law_860 ?_
  refine gc_L_102 (st := [.int o]) X (mtX7_foot κ.2.1 κ.2.2.2.2.2.2.2.2.2.2.1 G e2) rfl rfl (Nat.le_of_ble_eq_true rfl) (Nat.le_of_ble_eq_true rfl) (Nat.le_of_ble_eq_true rfl) dL_law_861 ?_
  exact z_icmp_eq (tgt := 995) X dL_law_864 (by decide) (fun _ => k M2 F hR2) (fun h => absurd rfl h)
/-- curl -/
theorem lc_21 (X : zCx κ G cL_law (cd :: wsL_law) RL ret 11 412) (Y : zSc κ b L xs) (hR : Rl M) (hi : lIn i L) (k : ∀ M' F', Rl M' → zV κ G 995 [(3, .int i), (2, .ref (G.1 60)), (1, .ref (G.1 0)), (0, .ref b)] [] M' F') : zV κ G 869 [(3, .int i), (2, .ref (G.1 60)), (1, .ref (G.1 0)), (0, .ref b)] [] M F := by
  obtain ⟨o, M1, M2, e1, e2, hR2⟩ := st_curl hR (xs (i + 1).toNatClampNeg)
  refine z_aload_n X dL_law_869 rfl 2 rfl ?_
  refine z_aload_n X dL_law_870 rfl 3 rfl ?_
  refine z_iload_n X dL_law_871 rfl 0 rfl ?_
  refine z_iconst (v := 1) X dL_law_872 (by decide) ?_
  refine z_iadd X dL_law_873 ?_
  refine z_sld X Y hi.1 dL_law_874 ?_
  refine gc_L_103 (st := []) X (mtX6_curl κ.2.1 κ.2.2.2.2.2.2.2.2.2.2.1 G e1) rfl rfl (Nat.le_of_ble_eq_true rfl) (Nat.le_of_ble_eq_true rfl) (Nat.le_of_ble_eq_true rfl) dL_law_875 ?_
  refine z_aload_n X dL_law_878 rfl 1 rfl ?_
  refine z_aload_n X dL_law_879 rfl 3 rfl ?_
  refine z_iload_n X dL_law_880 rfl 0 rfl ?_
  refine z_iconst (v := 1) X dL_law_881 (by decide) ?_
  refine z_iadd X dL_law_882 ?_
  refine z_sld X Y hi.1 dL_law_883 ?_
  refine gc_L_106 (st := [.int o]) X (mtX7_curl κ.2.1 κ.2.2.2.2.2.2.2.2.2.2.1 G e2) rfl rfl (Nat.le_of_ble_eq_true rfl) (Nat.le_of_ble_eq_true rfl) (Nat.le_of_ble_eq_true rfl) dL_law_884 ?_
  exact z_icmp_eq (tgt := 995) X dL_law_887 (by decide) (fun _ => k M2 F hR2) (fun h => absurd rfl h)
/-- mean -/
theorem lc_22 (X : zCx κ G cL_law (cd :: wsL_law) RL ret 11 412) (Y : zSc κ b L xs) (hR : Rl M) (hi : lIn i L) (k : ∀ M' F', Rl M' → zV κ G 995 [(3, .int i), (2, .ref (G.1 60)), (1, .ref (G.1 0)), (0, .ref b)] [] M' F') : zV κ G 892 [(3, .int i), (2, .ref (G.1 60)), (1, .ref (G.1 0)), (0, .ref b)] [] M F := by
  obtain ⟨o, M1, M2, F2, e1, e2, hR2⟩ := st_mean hR F
  refine z_aload_n X dL_law_892 rfl 2 rfl ?_
  refine gc_L_107 (st := []) X (mtX6_mean κ.2.1 κ.2.2.2.2.2.2.2.2.2.2.1 G e1) rfl rfl (Nat.le_of_ble_eq_true rfl) (Nat.le_of_ble_eq_true rfl) (Nat.le_of_ble_eq_true rfl) dL_law_893 ?_
  refine z_aload_n X dL_law_896 rfl 1 rfl ?_
  refine gc_L_111 (st := [.long o]) X (mtX7_mean κ.2.1 κ.2.2.2.2.2.2.2.2.2.2.1 G e2) rfl rfl (Nat.le_of_ble_eq_true rfl) (Nat.le_of_ble_eq_true rfl) (Nat.le_of_ble_eq_true rfl) dL_law_897 ?_
  refine z_lcmp X dL_law_900 ?_
  exact z_if_eq (tgt := 995) X dL_law_901 (by decide) (fun _ => k M2 F2 hR2) (fun h => absurd (by rw [lg_cmp_eq]) h)
/-- rest -/
theorem lc_23 (X : zCx κ G cL_law (cd :: wsL_law) RL ret 11 412) (Y : zSc κ b L xs) (hR : Rl M) (hi : lIn i L) (k : ∀ M' F', Rl M' → zV κ G 995 [(3, .int i), (2, .ref (G.1 60)), (1, .ref (G.1 0)), (0, .ref b)] [] M' F') : zV κ G 906 [(3, .int i), (2, .ref (G.1 60)), (1, .ref (G.1 0)), (0, .ref b)] [] M F := by
  obtain ⟨o, M1, M2, F2, e1, e2, hR2⟩ := st_rest hR F
  refine z_aload_n X dL_law_906 rfl 2 rfl ?_
  refine gc_L_112 (st := []) X (mtX6_rest κ.2.1 κ.2.2.2.2.2.2.2.2.2.2.1 G e1) rfl rfl (Nat.le_of_ble_eq_true rfl) (Nat.le_of_ble_eq_true rfl) (Nat.le_of_ble_eq_true rfl) dL_law_907 ?_
  refine z_aload_n X dL_law_910 rfl 1 rfl ?_
  refine gc_L_115 (st := [.long o]) X (mtX7_rest κ.2.1 κ.2.2.2.2.2.2.2.2.2.2.1 G e2) rfl rfl (Nat.le_of_ble_eq_true rfl) (Nat.le_of_ble_eq_true rfl) (Nat.le_of_ble_eq_true rfl) dL_law_911 ?_
  refine z_lcmp X dL_law_914 ?_
  exact z_if_eq (tgt := 995) X dL_law_915 (by decide) (fun _ => k M2 F2 hR2) (fun h => absurd (by rw [lg_cmp_eq]) h)
/-- slope -/
theorem lc_24 (X : zCx κ G cL_law (cd :: wsL_law) RL ret 11 412) (Y : zSc κ b L xs) (hR : Rl M) (hi : lIn i L) (k : ∀ M' F', Rl M' → zV κ G 995 [(3, .int i), (2, .ref (G.1 60)), (1, .ref (G.1 0)), (0, .ref b)] [] M' F') : zV κ G 920 [(3, .int i), (2, .ref (G.1 60)), (1, .ref (G.1 0)), (0, .ref b)] [] M F := by
  obtain ⟨o, M1, M2, F2, e1, e2, hR2⟩ := st_slope hR F
  refine z_aload_n X dL_law_920 rfl 2 rfl ?_
  refine gc_L_116 (st := []) X (mtX6_slope κ.2.1 κ.2.2.2.2.2.2.2.2.2.2.1 G e1) rfl rfl (Nat.le_of_ble_eq_true rfl) (Nat.le_of_ble_eq_true rfl) (Nat.le_of_ble_eq_true rfl) dL_law_921 ?_
  refine z_aload_n X dL_law_924 rfl 1 rfl ?_
  refine gc_L_120 (st := [.int o]) X (mtX7_slope κ.2.1 κ.2.2.2.2.2.2.2.2.2.2.1 G e2) rfl rfl (Nat.le_of_ble_eq_true rfl) (Nat.le_of_ble_eq_true rfl) (Nat.le_of_ble_eq_true rfl) dL_law_925 ?_
  exact z_icmp_eq (tgt := 995) X dL_law_928 (by decide) (fun _ => k M2 F2 hR2) (fun h => absurd rfl h)
/-- level -/
theorem lc_25 (X : zCx κ G cL_law (cd :: wsL_law) RL ret 11 412) (Y : zSc κ b L xs) (hR : Rl M) (hi : lIn i L) (k : ∀ M' F', Rl M' → zV κ G 995 [(3, .int i), (2, .ref (G.1 60)), (1, .ref (G.1 0)), (0, .ref b)] [] M' F') : zV κ G 933 [(3, .int i), (2, .ref (G.1 60)), (1, .ref (G.1 0)), (0, .ref b)] [] M F := by
  obtain ⟨o, M1, M2, e1, e2, hR2⟩ := st_level hR
  refine z_aload_n X dL_law_933 rfl 2 rfl ?_
  refine gc_L_121 (st := []) X (mtX6_level κ.2.1 κ.2.2.2.2.2.2.2.2.2.2.1 G e1) rfl rfl (Nat.le_of_ble_eq_true rfl) (Nat.le_of_ble_eq_true rfl) (Nat.le_of_ble_eq_true rfl) dL_law_934 ?_
  refine z_aload_n X dL_law_937 rfl 1 rfl ?_
  refine gc_L_124 (st := [.int o]) X (mtX7_level κ.2.1 κ.2.2.2.2.2.2.2.2.2.2.1 G e2) rfl rfl (Nat.le_of_ble_eq_true rfl) (Nat.le_of_ble_eq_true rfl) (Nat.le_of_ble_eq_true rfl) dL_law_938 ?_
  exact z_icmp_eq (tgt := 995) X dL_law_941 (by decide) (fun _ => k M2 F hR2) (fun h => absurd rfl h)
/-- back -/
theorem lc_26 (X : zCx κ G cL_law (cd :: wsL_law) RL ret 11 412) (Y : zSc κ b L xs) (hR : Rl M) (hi : lIn i L) (k : ∀ M' F', Rl M' → zV κ G 995 [(3, .int i), (2, .ref (G.1 60)), (1, .ref (G.1 0)), (0, .ref b)] [] M' F') : zV κ G 946 [(3, .int i), (2, .ref (G.1 60)), (1, .ref (G.1 0)), (0, .ref b)] [] M F := by
  obtain ⟨o, M1, M2, e1, e2, hR2⟩ := st_back hR
  refine z_aload_n X dL_law_946 rfl 2 rfl ?_
  refine gc_L_125 (st := []) X (mtX6_back κ.2.1 κ.2.2.2.2.2.2.2.2.2.2.1 G e1) rfl rfl (Nat.le_of_ble_eq_true rfl) (Nat.le_of_ble_eq_true rfl) (Nat.le_of_ble_eq_true rfl) dL_law_947 ?_
  refine z_aload_n X dL_law_950 rfl 1 rfl ?_
  refine gc_L_128 (st := [.int o]) X (mtX7_back κ.2.1 κ.2.2.2.2.2.2.2.2.2.2.1 G e2) rfl rfl (Nat.le_of_ble_eq_true rfl) (Nat.le_of_ble_eq_true rfl) (Nat.le_of_ble_eq_true rfl) dL_law_951 ?_
  exact z_icmp_eq (tgt := 995) X dL_law_954 (by decide) (fun _ => k M2 F hR2) (fun h => absurd rfl h)
/-- fault -/
theorem lc_27 (X : zCx κ G cL_law (cd :: wsL_law) RL ret 11 412) (Y : zSc κ b L xs) (hR : Rl M) (hi : lIn i L) (k : ∀ M' F', Rl M' → zV κ G 995 [(3, .int i), (2, .ref (G.1 60)), (1, .ref (G.1 0)), (0, .ref b)] [] M' F') : zV κ G 959 [(3, .int i), (2, .ref (G.1 60)), (1, .ref (G.1 0)), (0, .ref b)] [] M F := by
  obtain ⟨o, e1, e2⟩ := st_fault hR
  refine z_aload_n X dL_law_959 rfl 2 rfl ?_
  refine gc_L_129 (st := []) X (mtX6_fault κ.2.1 κ.2.2.2.2.2.2.2.2.2.2.1 G e1) rfl rfl (Nat.le_of_ble_eq_true rfl) (Nat.le_of_ble_eq_true rfl) (Nat.le_of_ble_eq_true rfl) dL_law_960 ?_
  refine z_aload_n X dL_law_963 rfl 1 rfl ?_
  refine gc_L_132 (st := [.int o]) X (mtX7_fault κ.2.1 κ.2.2.2.2.2.2.2.2.2.2.1 G e2) rfl rfl (Nat.le_of_ble_eq_true rfl) (Nat.le_of_ble_eq_true rfl) (Nat.le_of_ble_eq_true rfl) dL_law_964 ?_
  exact z_icmp_eq (tgt := 995) X dL_law_967 (by decide) (fun _ => k M F hR) (fun h => absurd rfl h)
/-- many -/
theorem lc_28 (X : zCx κ G cL_law (cd :: wsL_law) RL ret 11 412) (Y : zSc κ b L xs) (hR : Rl M) (hi : lIn i L) (k : ∀ M' F', Rl M' → zV κ G 995 [(3, .int i), (2, .ref (G.1 60)), (1, .ref (G.1 0)), (0, .ref b)] [] M' F') : zV κ G 972 [(3, .int i), (2, .ref (G.1 60)), (1, .ref (G.1 0)), (0, .ref b)] [] M F := by
  obtain ⟨o, M1, M2, e1, e2, hR2⟩ := st_many hR (xs (i + 1).toNatClampNeg)
  refine z_aload_n X dL_law_972 rfl 2 rfl ?_
  refine z_aload_n X dL_law_973 rfl 3 rfl ?_
  refine z_iload_n X dL_law_974 rfl 0 rfl ?_
  refine z_iconst (v := 1) X dL_law_975 (by decide) ?_
  refine z_iadd X dL_law_976 ?_
  refine z_sld X Y hi.1 dL_law_977 ?_
  refine gc_L_133 (st := []) X (mtX6_many κ.2.1 κ.2.2.2.2.2.2.2.2.2.2.1 G e1) rfl rfl (Nat.le_of_ble_eq_true rfl) (Nat.le_of_ble_eq_true rfl) (Nat.le_of_ble_eq_true rfl) dL_law_978 ?_
  refine z_aload_n X dL_law_981 rfl 1 rfl ?_
  refine z_aload_n X dL_law_982 rfl 3 rfl ?_
  refine z_iload_n X dL_law_983 rfl 0 rfl ?_
  refine z_iconst (v := 1) X dL_law_984 (by decide) ?_
  refine z_iadd X dL_law_985 ?_
  refine z_sld X Y hi.1 dL_law_986 ?_
  refine gc_L_136 (st := [.int o]) X (mtX7_many κ.2.1 κ.2.2.2.2.2.2.2.2.2.2.1 G e2) rfl rfl (Nat.le_of_ble_eq_true rfl) (Nat.le_of_ble_eq_true rfl) (Nat.le_of_ble_eq_true rfl) dL_law_987 ?_
  exact z_icmp_eq (tgt := 995) X dL_law_990 (by decide) (fun _ => k M2 F hR2) (fun h => absurd rfl h)
theorem lw_sw (X : zCx κ G cL_law (cd :: wsL_law) RL ret 11 412) (Y : zSc κ b L xs) (hR : Rl M) (hi : lIn i L) (k : ∀ M' F', Rl M' → zV κ G 995 [(3, .int i), (2, .ref (G.1 60)), (1, .ref (G.1 0)), (0, .ref b)] [] M' F') : ∀ (n : Nat), n < 32 → zV κ G 33 [(3, .int i), (2, .ref (G.1 60)), (1, .ref (G.1 0)), (0, .ref b)] [.int (iI (n : Int))] M F
  | 0, _ => z_tableIn (off := 131) (tgt := 164) X dL_law_33 (by decide) (by decide) rfl (by decide) (lc_0 X Y hR hi k)
  | 1, _ => z_tableIn (off := 154) (tgt := 187) X dL_law_33 (by decide) (by decide) rfl (by decide) (lc_1 X Y hR hi k)
  | 2, _ => z_tableIn (off := 197) (tgt := 230) X dL_law_33 (by decide) (by decide) rfl (by decide) (lc_2 X Y hR hi k)
  | 3, _ => z_tableIn (off := 221) (tgt := 254) X dL_law_33 (by decide) (by decide) rfl (by decide) (lc_3 X Y hR hi k)
  | 4, _ => z_tableIn (off := 254) (tgt := 287) X dL_law_33 (by decide) (by decide) rfl (by decide) (lc_4 X Y hR hi k)
  | 5, _ => z_tableIn (off := 287) (tgt := 320) X dL_law_33 (by decide) (by decide) rfl (by decide) (lc_5 X Y hR hi k)
  | 6, _ => z_tableIn (off := 330) (tgt := 363) X dL_law_33 (by decide) (by decide) rfl (by decide) (lc_6 X Y hR hi k)
  | 7, _ => z_tableIn (off := 373) (tgt := 406) X dL_law_33 (by decide) (by decide) rfl (by decide) (lc_7 X Y hR hi k)
  | 8, _ => z_tableIn (off := 407) (tgt := 440) X dL_law_33 (by decide) (by decide) rfl (by decide) (lc_8 X Y hR hi k)
  | 9, _ => z_tableIn (off := 470) (tgt := 503) X dL_law_33 (by decide) (by decide) rfl (by decide) (lc_9 X Y hR hi k)
  | 10, _ => z_tableIn (off := 493) (tgt := 526) X dL_law_33 (by decide) (by decide) rfl (by decide) (lc_10 X Y hR hi k)
  | 11, _ => z_tableIn (off := 536) (tgt := 569) X dL_law_33 (by decide) (by decide) rfl (by decide) (lc_11 X Y hR hi k)
  | 12, _ => z_tableIn (off := 579) (tgt := 612) X dL_law_33 (by decide) (by decide) rfl (by decide) (lc_12 X Y hR hi k)
  | 13, _ => z_tableIn (off := 612) (tgt := 645) X dL_law_33 (by decide) (by decide) rfl (by decide) (lc_13 X Y hR hi k)
  | 14, _ => z_tableIn (off := 635) (tgt := 668) X dL_law_33 (by decide) (by decide) rfl (by decide) (lc_14 X Y hR hi k)
  | 15, _ => z_tableIn (off := 658) (tgt := 691) X dL_law_33 (by decide) (by decide) rfl (by decide) (lc_15 X Y hR hi k)
  | 16, _ => z_tableIn (off := 691) (tgt := 724) X dL_law_33 (by decide) (by decide) rfl (by decide) (lc_16 X Y hR hi k)
  | 17, _ => z_tableIn (off := 724) (tgt := 757) X dL_law_33 (by decide) (by decide) rfl (by decide) (lc_17 X Y hR hi k)
  | 18, _ => z_tableIn (off := 757) (tgt := 790) X dL_law_33 (by decide) (by decide) rfl (by decide) (lc_18 X Y hR hi k)
  | 19, _ => z_tableIn (off := 790) (tgt := 823) X dL_law_33 (by decide) (by decide) rfl (by decide) (lc_19 X Y hR hi k)
  | 20, _ => z_tableIn (off := 813) (tgt := 846) X dL_law_33 (by decide) (by decide) rfl (by decide) (lc_20 X Y hR hi k)
  | 21, _ => z_tableIn (off := 836) (tgt := 869) X dL_law_33 (by decide) (by decide) rfl (by decide) (lc_21 X Y hR hi k)
  | 22, _ => z_tableIn (off := 859) (tgt := 892) X dL_law_33 (by decide) (by decide) rfl (by decide) (lc_22 X Y hR hi k)
  | 23, _ => z_tableIn (off := 873) (tgt := 906) X dL_law_33 (by decide) (by decide) rfl (by decide) (lc_23 X Y hR hi k)
  | 24, _ => z_tableIn (off := 887) (tgt := 920) X dL_law_33 (by decide) (by decide) rfl (by decide) (lc_24 X Y hR hi k)
  | 25, _ => z_tableIn (off := 900) (tgt := 933) X dL_law_33 (by decide) (by decide) rfl (by decide) (lc_25 X Y hR hi k)
  | 26, _ => z_tableIn (off := 913) (tgt := 946) X dL_law_33 (by decide) (by decide) rfl (by decide) (lc_26 X Y hR hi k)
  | 27, _ => z_tableIn (off := 926) (tgt := 959) X dL_law_33 (by decide) (by decide) rfl (by decide) (lc_27 X Y hR hi k)
  | 28, _ => z_tableIn (off := 939) (tgt := 972) X dL_law_33 (by decide) (by decide) rfl (by decide) (lc_28 X Y hR hi k)
  | 29, _ => z_tableOut (tgt := 995) X dL_law_33 (Or.inr (by decide)) (by decide) (k M F hR)
  | 30, _ => z_tableOut (tgt := 995) X dL_law_33 (Or.inr (by decide)) (by decide) (k M F hR)
  | 31, _ => z_tableOut (tgt := 995) X dL_law_33 (Or.inr (by decide)) (by decide) (k M F hR)
  | n + 32, h => absurd h (by omega)
end LCASE
