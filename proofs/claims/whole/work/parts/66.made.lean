/-! making: worlds that grow -/
theorem bNest_warm {s U : State} (hW : s.WarmedH U.vm) {w : Cond} (hw : w ∈ bNest) (h : va_Nw w s) : va_Nw w U := by
  simp only [bNest, List.mem_cons, List.not_mem_nil, or_false] at hw
  rcases hw with rfl | rfl | rfl | rfl | rfl <;> exact va_Nw.warmM hW h
theorem bNest_same {u U : State} (hv : u.vm = U.vm) {w : Cond} (hw : w ∈ bNest) (h : va_Nw w u) : va_Nw w U := by
  simp only [bNest, List.mem_cons, List.not_mem_nil, or_false] at hw
  rcases hw with rfl | rfl | rfl | rfl | rfl <;> exact va_Nw.same rfl hv h
def bKK (D : va_G) (C : Nat → ClassId) (U : State) : Prop := zKK D ((fun _ => 0), C) U ∧ va_AOA .int U ∧ va_AO "LevelledInk$Card" U ∧ ∀ w ∈ bNest, va_Nw w U
theorem bKK.warm {D : va_G} {C : Nat → ClassId} {s U : State} (h : bKK D C s) (hW : s.WarmedH U.vm) : bKK D C U := ⟨h.1.warm hW, h.2.1.moved hW.alike, h.2.2.1.moved hW.alike, fun w hw => bNest_warm hW hw (h.2.2.2 w hw)⟩
theorem bKK.call {D : va_G} {C : Nat → ClassId} {U : State} (g : JFrame) (mk : MethodId) (a : Array Value) (h : bKK D C U) : bKK D C (U.calling g mk a) :=
  ⟨⟨va_K.moved (u := U) (U := U.calling g mk a) (Vm.Alike.refl U.vm) h.1.1, fun w hw => zNest_same (u := U) (U := U.calling g mk a) rfl hw (h.1.2 w hw)⟩, va_AOA.moved (u := U) (U := U.calling g mk a) (Vm.Alike.refl U.vm) h.2.1, va_AO.moved (u := U) (U := U.calling g mk a) (Vm.Alike.refl U.vm) h.2.2.1, fun w hw => bNest_same (u := U) (U := U.calling g mk a) rfl hw (h.2.2.2 w hw)⟩
/-- the memory of a new pair of objects -/
def Mi : zMem := fun c => if c = 1 then (fun k => if k = 3 then 24 else 0) else if c = 14 then (fun k => if k = 1 then -1 else 0) else if c = 15 then (fun k => if k = 1 then -1 else 0) else if c = 16 then (fun k => if k = 1 then -1 else 0) else if c = 17 then (fun k => if k = 1 then -1 else 0) else if c = 60 then (fun k => if k = 1 then 24 else 0) else if c = 62 then upd (upd (upd (upd (fun _ => 0) 0 (-9)) 1 (-9)) 2 (-9)) 3 (-9) else (fun _ => 0)
/-- the cells S, as they are made -/
def bw (G : zG) (S : List Nat) : va_W := S.map (fun c => (G.1 c, zent G Mi 0 c (zlay c)))
theorem bw_app (G : zG) (S T : List Nat) : bw G (S ++ T) = bw G S ++ bw G T := List.map_append
def zrefs (d : zCd) : List Nat := match d with
  | .inl o => (o.2.filter (fun f => f.1 == 0)).map Prod.snd
  | .inr (.inl _) => []
  | .inr (.inr a) => (List.range a.2.1).map (fun j => a.2.2 + j)
theorem zent_ref {g g' : Nat → Nat} {C : Nat → ClassId} {M : zMem} {F : Int64} {c : Nat} (d : zCd) (h : ∀ x ∈ zrefs d, g x = g' x) : zent (g, C) M F c d = zent (g', C) M F c d := by
  rcases d with o | a | a
  · have hz : zfvs (g, C) M F c o.2 = zfvs (g', C) M F c o.2 := by
      unfold zfvs
      apply List.map_congr_left
      intro q hq
      unfold zfv
      by_cases h0 : q.1.1 = 0
      · rw [if_pos h0, if_pos h0]
        have hm : q.1 ∈ o.2 := List.fst_mem_of_mem_zipIdx hq
        have h1 := h q.1.2 (List.mem_map.mpr ⟨q.1, List.mem_filter.mpr ⟨hm, by simp [h0]⟩, rfl⟩)
        show Value.ref (g q.1.2) = Value.ref (g' q.1.2)
        rw [h1]
      · rw [if_neg h0, if_neg h0]
    show Sum.inr (o.1, zfvs (g, C) M F c o.2) = Sum.inr (o.1, zfvs (g', C) M F c o.2)
    rw [hz]
  · rfl
  · have hj : (fun j => if j < a.2.1 then some (g (a.2.2 + j)) else none) = (fun j => if j < a.2.1 then some (g' (a.2.2 + j)) else none) := by
      funext j
      by_cases hj : j < a.2.1
      · rw [if_pos hj, if_pos hj, h (a.2.2 + j) (List.mem_map.mpr ⟨j, List.mem_range.mpr hj, rfl⟩)]
      · rw [if_neg hj, if_neg hj]
    show Sum.inl (C a.1, a.2.1, Sum.inr (Sum.inr (Sum.inr (Sum.inr (fun j => if j < a.2.1 then some (g (a.2.2 + j)) else none))))) = Sum.inl (C a.1, a.2.1, Sum.inr (Sum.inr (Sum.inr (Sum.inr (fun j => if j < a.2.1 then some (g' (a.2.2 + j)) else none)))))
    rw [hj]
def zcl (S : List Nat) : Bool := S.all (fun c => (zrefs (zlay c)).all (fun x => S.contains x))
theorem bw_cg {g g' : Nat → Nat} {C : Nat → ClassId} {S : List Nat} (hc : zcl S = true) (h : ∀ x ∈ S, g x = g' x) : bw (g, C) S = bw (g', C) S := by
  unfold bw
  apply List.map_congr_left
  intro c hcS
  have h1 := List.all_eq_true.mp hc c hcS
  show (g c, zent (g, C) Mi 0 c (zlay c)) = (g' c, zent (g', C) Mi 0 c (zlay c))
  rw [h c hcS, zent_ref (g' := g') (zlay c) (fun x hx => h x (List.contains_iff_mem.mp (List.all_eq_true.mp h1 x hx)))]
theorem vaP_perm {D : va_G} {cl : List vw_C} {ws ws' : va_W} {H : Heap} (h : ws.Perm ws') (hP : va_P D cl ws H) : va_P D cl ws' H := by
  intro k q hk
  obtain ⟨i, hi⟩ := List.getElem?_of_mem (h.mem_iff.mpr (List.mem_of_getElem? hk))
  exact hP i q hi
theorem vaD_nd {A : Nat → Prop} {ws : va_W} (hD : va_D A ws) : (ws.map Prod.fst).Nodup := by
  refine List.pairwise_iff_getElem.mpr (fun i j hi hj hij e => ?_)
  rw [List.length_map] at hi hj
  rw [List.getElem_map, List.getElem_map] at e
  have := hD.1 i j _ _ (List.getElem?_eq_getElem hi) (List.getElem?_eq_getElem hj) e
  omega
theorem vaD_of {A : Nat → Prop} {ws : va_W} (hn : (ws.map Prod.fst).Nodup) (hA : ∀ q ∈ ws, A q.1) : va_D A ws := by
  have key := List.pairwise_iff_getElem.mp hn
  refine ⟨fun i j p q hi hj e => ?_, fun k q hk => hA q (List.mem_of_getElem? hk)⟩
  obtain ⟨li, ei⟩ := List.getElem?_eq_some_iff.mp hi
  obtain ⟨lj, ej⟩ := List.getElem?_eq_some_iff.mp hj
  rcases Nat.lt_trichotomy i j with h | h | h
  · refine absurd ?_ (key i j (by rw [List.length_map]; exact li) (by rw [List.length_map]; exact lj) h)
    rw [List.getElem_map, List.getElem_map, ei, ej]; exact e
  · exact h
  · refine absurd ?_ (key j i (by rw [List.length_map]; exact lj) (by rw [List.length_map]; exact li) h)
    rw [List.getElem_map, List.getElem_map, ei, ej]; exact e.symm
theorem vaD_perm {A : Nat → Prop} {ws ws' : va_W} (h : ws.Perm ws') (hD : va_D A ws) : va_D A ws' :=
  vaD_of ((h.map Prod.fst).nodup_iff.mp (vaD_nd hD)) (fun q hq => by
    obtain ⟨i, hi⟩ := List.getElem?_of_mem (h.mem_iff.mpr hq)
    exact hD.2 i q hi)
theorem va_nd_of : ∀ l : List Nat, l.Nodup → va_nd l = true
  | [], _ => rfl
  | a :: l, h => by
    obtain ⟨h1, h2⟩ := List.nodup_cons.mp h
    show (decide (a ∉ l) && va_nd l) = true
    rw [decide_eq_true h1, va_nd_of l h2]; rfl
theorem b_idx (ws : va_W) (x : Nat × va_E) : (List.range ws.length).map (fun i => (ws ++ [x])[i]?) = ws.map some := by
  apply List.ext_getElem?
  intro i
  rw [List.getElem?_map, List.getElem?_map]
  by_cases h : i < ws.length
  · rw [List.getElem?_range h, List.getElem?_eq_getElem h]
    show some ((ws ++ [x])[i]?) = some (some ws[i])
    rw [List.getElem?_append_left h, List.getElem?_eq_getElem h]
  · rw [List.getElem?_eq_none (by rw [List.length_range]; omega), List.getElem?_eq_none (show ws.length ≤ i by omega)]; rfl
theorem b_last (ws : va_W) (x : Nat × va_E) : [ws.length].map (fun i => (ws ++ [x])[i]?) = [x].map some := by
  show [(ws ++ [x])[ws.length]?] = [some x]
  rw [List.getElem?_append_right (Nat.le_refl _), Nat.sub_self]; rfl
def bV (κ : zK) (kc ks pc : Nat) (lv : List (Nat × Value)) (st : List Value) (ws : va_W) : Prop := match κ with
  | (p, l, e, R, s, m, args, below, meth, c, D, A, Q, nL, _, _) => ∀ (ls : Array Slot) (H : Heap) (locs : List Loc), lv_has ls nL lv → va_P D vwCl ws H → va_D A ws → va_S A s.heap H locs → W p l e R s m args below meth c H locs kc ks Q (F0 m pc ls st)
def bCx (κ : zK) (C : Nat → ClassId) (cc : ByteArray) (Ts : List Cond) (own : String) (rf rl mc ms : Nat) : Prop := match κ with
  | (p, _, _, R, s, m, args, _, _, c, D, A, _, nL, _, _) => p.tables.exec = Jvm.exec ∧ c.code = cc ∧ c.maxLocals = nL ∧ s.vm.findClass own = some m.cls ∧ (∀ w ∈ Ts, w.before args s = true) ∧ bKK D C s ∧ (∀ q, s.heap.size ≤ q → A q) ∧ rf ≤ R.frames ∧ rl ≤ R.locals ∧ mc ≤ R.cells ∧ ms ≤ R.slots
def bIx (κ : zK) : Prop := match κ with
  | (_, _, _, _, _, _, _, _, meth, _, _, _, _, _, _, _) => meth.sig.returnType = none ∧ meth.locks = false ∧ meth.name = "<init>"
def bPc (D : va_G) (C : Nat → ClassId) (h0 : Nat) (e : va_E) (sz : Nat) : Array Value → State → Prop := va_Pc [.ref h0] (fun U => U.heap.size = sz ∧ va_P D vwCl [(h0, e)] U.heap ∧ bKK D C U)
def bQc (D : va_G) (C : Nat → ClassId) (h0 c0 : Nat) (S : List Nat) (A : Nat → Prop) : Array Value → State → Outcome → State → Prop := va_Qv (fun g : Nat → Nat => g c0 = h0) (fun g t => va_P D vwCl (bw (g, C) S) t.heap ∧ va_D A (bw (g, C) S)) A
def bRx (κ : zK) (C : Nat → ClassId) (h0 c0 : Nat) (S : List Nat) (mc ms : Nat) : Prop := match κ with
  | (_, _, _, _, s, _, args, below, _, _, D, A, Q, _, _, _) => Q = MQ below (bQc D C h0 c0 S A) args s mc ms A
/-- a constructor's contract -/
def bCM (l : Launch) (y : MethodName) (ws : List Cond) (fr lo mc ms : Nat) (D : va_G) (C : Nat → ClassId) (e : va_E) (c0 : Nat) (S : List Nat) : Prop :=
  ∀ h0 sz : Nat, Met l y ws { frames := fr, cells := mc, slots := ms, locals := lo } (bPc D C h0 e sz) (bQc D C h0 c0 S (va_A [(h0, e)] sz)) mc ms (va_A [(h0, e)] sz)
theorem bPc_blind (D : va_G) (C : Nat → ClassId) (h0 : Nat) (e : va_E) (sz : Nat) : FrameBlind (bPc D C h0 e sz) := by
  intro a U g mk q
  obtain ⟨q0, q1, qP, qK⟩ := q
  exact ⟨q0, q1, qP, qK.call g mk a⟩
theorem vaD_one {A : Nat → Prop} {h0 : Nat} {e : va_E} (h : A h0) : va_D A [(h0, e)] := vaD_of (List.nodup_cons.mpr ⟨List.not_mem_nil, List.nodup_nil⟩) (fun q hq => by rw [List.mem_singleton.mp hq]; exact h)
theorem bCM.ofV {l : Launch} {y : MethodName} {ws ws' : List Cond} {fr lo mc ms : Nat} {D : va_G} {C : Nat → ClassId} {e : va_E} {c0 : Nat} {S : List Nat} {cc : ByteArray} {maxL : Nat} {own : String}
    (hy : plainName y.cls = true) (ho : y.cls = own) (hnm : y.name = "<init>") (hw : ws = Cond.code y cc maxL none :: ws') (hn : 1 ≤ maxL)
    (body : ∀ (κ : zK) (h0 : Nat), bCx κ C cc ws own fr lo mc ms → bIx κ → bRx κ C h0 c0 S mc ms → κ.2.2.2.2.2.2.2.2.2.2.2.2.2.1 = maxL → κ.2.1 = l → κ.2.2.2.2.2.2.2.2.2.2.1 = D → bV κ 0 0 0 [(0, .ref h0)] [] [(h0, e)]) : bCM l y ws fr lo mc ms D C e c0 S := by
  intro h0 sz
  refine Met.ofW (cc := cc) (maxL := maxL) (ret := none) hy hw ?_
  intro p e' s m args below meth c s₁ B hml hv
  obtain ⟨rfl, hsz, hP, hK⟩ := hv
  subst hsz
  have hl := lv_entry [Value.ref h0] (n := maxL) (by show 1 ≤ maxL; exact hn)
  rw [lg_entry_eq]
  have X : bCx (p, l, e', { frames := fr, cells := mc, slots := ms, locals := lo }, s, m, [Value.ref h0].toArray, below, meth, c, D, va_A [(h0, e)] s.heap.size, MQ below (bQc D C h0 c0 S (va_A [(h0, e)] s.heap.size)) [Value.ref h0].toArray s mc ms (va_A [(h0, e)] s.heap.size), maxL, 0, 0) C cc ws own fr lo mc ms :=
    ⟨B.exec, B.bytes, hml, ho ▸ findClass_of_methodNamed B.named, atoms_spec (ws := ws) B.pre, hK, fun q h => Or.inr h, Nat.le_refl _, Nat.le_refl _, Nat.le_refl _, Nat.le_refl _⟩
  exact body _ h0 X ⟨B.returns, B.notSynchronized, (name_of_methodNamed B.named B.method).1.trans hnm⟩ rfl rfl rfl rfl _ _ _ hl hP (vaD_one (Or.inl ⟨0, e, rfl⟩)) va_S.rf
section BROWS
variable {κ : zK} {C : Nat → ClassId} {cc : ByteArray} {Ts : List Cond} {own : String} {rf rl mc ms kc ks pc : Nat} {lv : List (Nat × Value)} {st : List Value} {ws : va_W}
theorem b_aload_n (X : bCx κ C cc Ts own rf rl mc ms) {n : Fin 4} {i x : Nat} (hd : decode cc pc = .ok (.aload_n n, 1)) (hi : (n : Nat) = i) (j : Nat) (hj : lv[j]? = some (i, .ref x)) (k : bV κ kc ks (pc + 1) lv (.ref x :: st) ws) : bV κ kc ks pc lv st ws := by
  obtain ⟨p, l, e, R, s, m, args, below, meth, cdd, D, A, Q, nL, kc0, ks0⟩ := κ
  exact fun ls H locs hl hP hD hS => lv_aload_n X.1 X.2.1 hd hi (lv_at hl j hj) (k ls H locs hl hP hD hS)
theorem b_iload_n (X : bCx κ C cc Ts own rf rl mc ms) {n : Fin 4} {i : Nat} {x : Int32} (hd : decode cc pc = .ok (.iload_n n, 1)) (hi : (n : Nat) = i) (j : Nat) (hj : lv[j]? = some (i, .int x)) (k : bV κ kc ks (pc + 1) lv (.int x :: st) ws) : bV κ kc ks pc lv st ws := by
  obtain ⟨p, l, e, R, s, m, args, below, meth, cdd, D, A, Q, nL, kc0, ks0⟩ := κ
  exact fun ls H locs hl hP hD hS => lv_iload_n X.1 X.2.1 hd hi (lv_at hl j hj) (k ls H locs hl hP hD hS)
theorem b_iconst (X : bCx κ C cc Ts own rf rl mc ms) {n : Int} {v : Int32} (hd : decode cc pc = .ok (.iconst n, 1)) (hv : Int32.ofInt n = v) (k : bV κ kc ks (pc + 1) lv (.int v :: st) ws) : bV κ kc ks pc lv st ws := by
  obtain ⟨p, l, e, R, s, m, args, below, meth, cdd, D, A, Q, nL, kc0, ks0⟩ := κ
  exact fun ls H locs hl hP hD hS => lv_iconst X.1 X.2.1 hd hv (k ls H locs hl hP hD hS)
theorem b_bipush (X : bCx κ C cc Ts own rf rl mc ms) {n : Int} {v : Int32} (hd : decode cc pc = .ok (.bipush n, 2)) (hv : (Int8.ofInt n).toInt32 = v) (k : bV κ kc ks (pc + 2) lv (.int v :: st) ws) : bV κ kc ks pc lv st ws := by
  obtain ⟨p, l, e, R, s, m, args, below, meth, cdd, D, A, Q, nL, kc0, ks0⟩ := κ
  exact fun ls H locs hl hP hD hS => lv_bipush X.1 X.2.1 hd hv (k ls H locs hl hP hD hS)
theorem b_sipush (X : bCx κ C cc Ts own rf rl mc ms) {n : Int} {v : Int32} (hd : decode cc pc = .ok (.sipush n, 3)) (hv : (Int16.ofInt n).toInt32 = v) (k : bV κ kc ks (pc + 3) lv (.int v :: st) ws) : bV κ kc ks pc lv st ws := by
  obtain ⟨p, l, e, R, s, m, args, below, meth, cdd, D, A, Q, nL, kc0, ks0⟩ := κ
  exact fun ls H locs hl hP hD hS => lv_sipush X.1 X.2.1 hd hv (k ls H locs hl hP hD hS)
theorem b_dup (X : bCx κ C cc Ts own rf rl mc ms) {a : Value} (hd : decode cc pc = .ok (.dup, 1)) (ha : a.category = 1) (k : bV κ kc ks (pc + 1) lv (a :: a :: st) ws) : bV κ kc ks pc lv (a :: st) ws := by
  obtain ⟨p, l, e, R, s, m, args, below, meth, cdd, D, A, Q, nL, kc0, ks0⟩ := κ
  exact fun ls H locs hl hP hD hS => lv_dup X.1 X.2.1 hd ha (k ls H locs hl hP hD hS)
theorem b_istore_n (X : bCx κ C cc Ts own rf rl mc ms) {lv' : List (Nat × Value)} {n : Fin 4} {i nL : Nat} {x : Int32} (hd : decode cc pc = .ok (.istore_n n, 1)) (hi : (n : Nat) = i) (hm : κ.2.2.2.2.2.2.2.2.2.2.2.2.2.1 = nL) (hn : i < nL) (hl : (i, Value.int x) :: lv.filter (fun q => !(q.1 == i) && !(q.1 + 1 == i && q.2.category == 2)) = lv') (k : bV κ kc ks (pc + 1) lv' st ws) : bV κ kc ks pc lv (.int x :: st) ws := by
  obtain ⟨p, l, e, R, s, m, args, below, meth, cdd, D, A, Q, nL, kc0, ks0⟩ := κ
  exact fun ls H locs h hP hD hS => lv_istore_n X.1 X.2.1 hd hi h (Nat.lt_of_lt_of_eq hn hm.symm) hl (fun ls' h' => k ls' H locs h' hP hD hS)
theorem b_astore_n (X : bCx κ C cc Ts own rf rl mc ms) {lv' : List (Nat × Value)} {n : Fin 4} {i nL : Nat} {x : Nat} (hd : decode cc pc = .ok (.astore_n n, 1)) (hi : (n : Nat) = i) (hm : κ.2.2.2.2.2.2.2.2.2.2.2.2.2.1 = nL) (hn : i < nL) (hl : (i, Value.ref x) :: lv.filter (fun q => !(q.1 == i) && !(q.1 + 1 == i && q.2.category == 2)) = lv') (k : bV κ kc ks (pc + 1) lv' st ws) : bV κ kc ks pc lv (.ref x :: st) ws := by
  obtain ⟨p, l, e, R, s, m, args, below, meth, cdd, D, A, Q, nL, kc0, ks0⟩ := κ
  exact fun ls H locs h hP hD hS => lv_astore_n X.1 X.2.1 hd hi h (Nat.lt_of_lt_of_eq hn hm.symm) hl (fun ls' h' => k ls' H locs h' hP hD hS)
theorem b_iinc (X : bCx κ C cc Ts own rf rl mc ms) {lv' : List (Nat × Value)} {i j nL : Nat} {n : Int} {x v : Int32} (hd : decode cc pc = .ok (.iinc i n, 3)) (hj : lv[j]? = some (i, .int x)) (hv : x + Int32.ofInt n = v) (hm : κ.2.2.2.2.2.2.2.2.2.2.2.2.2.1 = nL) (hn : i < nL) (hl : (i, Value.int v) :: lv.filter (fun q => !(q.1 == i) && !(q.1 + 1 == i && q.2.category == 2)) = lv') (k : bV κ kc ks (pc + 3) lv' st ws) : bV κ kc ks pc lv st ws := by
  obtain ⟨p, l, e, R, s, m, args, below, meth, cdd, D, A, Q, nL, kc0, ks0⟩ := κ
  exact fun ls H locs h hP hD hS => lv_iinc X.1 X.2.1 hd h hj hv (Nat.lt_of_lt_of_eq hn hm.symm) hl (fun ls' h' => k ls' H locs h' hP hD hS)
theorem b_goto (X : bCx κ C cc Ts own rf rl mc ms) {off : Int} {tgt : Nat} (hd : decode cc pc = .ok (.goto off, 3)) (ht : (pc : Int) + off = (tgt : Int)) (k : bV κ kc ks tgt lv st ws) : bV κ kc ks pc lv st ws := by
  obtain ⟨p, l, e, R, s, m, args, below, meth, cdd, D, A, Q, nL, kc0, ks0⟩ := κ
  exact fun ls H locs hl hP hD hS => lv_goto X.1 X.2.1 hd ht (k ls H locs hl hP hD hS)
theorem b_icmp_ge_n (X : bCx κ C cc Ts own rf rl mc ms) {x y : Int32} {off : Int} {tgt : Nat} (hd : decode cc pc = .ok (.if_icmp .ge off, 3)) (ht : (pc : Int) + off = (tgt : Int)) (hxy : ¬ y ≤ x) (k : bV κ kc ks (pc + 3) lv st ws) : bV κ kc ks pc lv (.int y :: .int x :: st) ws := by
  obtain ⟨p, l, e, R, s, m, args, below, meth, cdd, D, A, Q, nL, kc0, ks0⟩ := κ
  exact fun ls H locs hl hP hD hS => lv_icmp_ge X.1 X.2.1 hd ht (fun h => absurd h hxy) (fun _ => k ls H locs hl hP hD hS)
theorem b_icmp_ge_p (X : bCx κ C cc Ts own rf rl mc ms) {x y : Int32} {off : Int} {tgt : Nat} (hd : decode cc pc = .ok (.if_icmp .ge off, 3)) (ht : (pc : Int) + off = (tgt : Int)) (hxy : y ≤ x) (k : bV κ kc ks tgt lv st ws) : bV κ kc ks pc lv (.int y :: .int x :: st) ws := by
  obtain ⟨p, l, e, R, s, m, args, below, meth, cdd, D, A, Q, nL, kc0, ks0⟩ := κ
  exact fun ls H locs hl hP hD hS => lv_icmp_ge X.1 X.2.1 hd ht (fun _ => k ls H locs hl hP hD hS) (fun h => absurd hxy h)
theorem b_perm {ws' : va_W} (h : ws.Perm ws') (k : bV κ kc ks pc lv st ws') : bV κ kc ks pc lv st ws := by
  obtain ⟨p, l, e, R, s, m, args, below, meth, cdd, D, A, Q, nL, kc0, ks0⟩ := κ
  exact fun ls H locs hl hP hD hS => k ls H locs hl (vaP_perm h hP) (vaD_perm h hD) hS
theorem b_obj (X : bCx κ C cc Ts own rf rl mc ms) {idx a : Nat} (hlink : Cond.methodLink own idx objectInit ∈ Ts) (hinst : Cond.instanceMethod objectInit ∈ Ts) (hcode : Cond.code objectInit ⟨#[0xb1]⟩ 1 none ∈ Ts) (hf : 1 ≤ rf) (hlo : (st.map fun v => v.category).sum + 12 ≤ rl) (hd : decode cc pc = .ok (.invokespecial idx, 3)) (k : bV κ kc ks (pc + 3) lv st ws) : bV κ kc ks pc lv (.ref a :: st) ws := by
  obtain ⟨p, l, e, R, s, m, args, below, meth, cdd, D, A, Q, nL, kc0, ks0⟩ := κ
  intro ls H locs hl hP hD hS
  refine W.objInit X.1 X.2.1 X.2.2.2.1 (X.2.2.2.2.1 _ hlink) (X.2.2.2.2.1 _ hinst) (X.2.2.2.2.1 _ hcode) rfl (hl.1.trans X.2.2.1.symm) rfl hd (Nat.le_trans hf X.2.2.2.2.2.2.2.1) ?_ ?_
  · refine Nat.le_trans ?_ (Nat.le_trans hlo X.2.2.2.2.2.2.2.2.1)
    show 2 * 0 + _ + 12 ≤ _
    omega
  · refine W.eq (g2 := F0 m (pc + 3) ls st) rfl ?_
    exact k ls H locs hl hP hD hS
theorem b_new (X : bCx κ C cc Ts own rf rl mc ms) {C0 : String} {T : u_T} {N ci index kc' ks' : Nat} {ty : Nat → FieldType} {fs : List Value} (hin : ∀ w ∈ u_ws C0 T N, w ∈ Ts) (hty : ∀ k, k < N → parseFieldDescriptor (T k).2.2.1 = some (ty k)) (hcl : Cond.classLink own index C0 ∈ Ts) (hinst : Cond.instantiable C0 N ∈ Ts) (hini : Cond.initialized C0 ∈ Ts) (hc : vwCl[ci]? = some (C0, T, N)) (hfs : ∀ j, j < N → defaultValue (ty j) = vp_V fs j) (h1 : kc + 1 = kc') (h2 : ks + N = ks') (h3 : kc' ≤ mc) (h4 : ks' ≤ ms) (hd : decode cc pc = .ok (.new index, 3)) (k : ∀ q, bV κ kc' ks' (pc + 3) lv (.ref q :: st) (ws ++ [(q, .inr (ci, fs))])) : bV κ kc ks pc lv st ws := by
  subst h1 h2
  obtain ⟨p, l, e, R, s, m, args, below, meth, cdd, D, A, Q, nL, kc0, ks0⟩ := κ
  exact fun ls H locs hl hP hD hS => va_new X.1 X.2.1 X.2.2.2.2.1 hin ty hty X.2.2.2.1 (X.2.2.2.2.1 _ hcl) (X.2.2.2.2.1 _ hinst) (X.2.2.2.2.1 _ hini) X.2.2.2.2.2.1.1.1 hP hD hS X.2.2.2.2.2.2.1 hc hfs (Nat.le_trans h3 X.2.2.2.2.2.2.2.2.2.1) (Nat.le_trans h4 X.2.2.2.2.2.2.2.2.2.2) hd (fun q H1 hP1 hD1 hS1 => k q ls H1 locs hl hP1 hD1 hS1)
theorem b_newI (X : bCx κ C cc Ts own rf rl mc ms) {n : Int32} {N kc' ks' : Nat} (harr : Cond.arrayClass .int ∈ Ts) (hn : ¬ n < 0) (hN : n.toNatClampNeg = N) (hb : N * 4 ≤ 536870912) (h1 : kc + 1 = kc') (h2 : ks + N = ks') (h3 : kc' ≤ mc) (h4 : ks' ≤ ms) (hd : decode cc pc = .ok (.newarray .int, 2)) (k : ∀ q, bV κ kc' ks' (pc + 2) lv (.ref q :: st) (ws ++ [(q, .inl (C 0, N, .inl (fun _ => 0)))])) : bV κ kc ks pc lv (.int n :: st) ws := by
  subst h1 h2
  obtain ⟨p, l, e, R, s, m, args, below, meth, cdd, D, A, Q, nL, kc0, ks0⟩ := κ
  intro ls H locs hl hP hD hS
  have hK := X.2.2.2.2.2.1.1.1
  refine va_newa (atype := .int) (a0 := (N, .inl (fun _ => 0))) X.1 X.2.1 (X.2.2.2.2.1 _ harr) rfl hK hP hD hS X.2.2.2.2.2.2.1 (fun _ => rfl) hn hN hb (Nat.le_trans h3 X.2.2.2.2.2.2.2.2.2.1) (Nat.le_trans h4 X.2.2.2.2.2.2.2.2.2.2) hd (fun q cA H1 hK1 hP1 hD1 hS1 => ?_)
  have e1 : s.vm.findClass ("[" ++ FieldType.int.toString) = some cA := (hK1.2 4 (cA, .int) rfl).2
  have e2 : s.vm.findClass ("[" ++ FieldType.int.toString) = some (C 0) := (hK.2 0 (C 0, .int) rfl).2
  have e3 : cA = C 0 := Option.some.inj (e1.symm.trans e2)
  subst e3
  exact k q ls H1 locs hl hP1 hD1 hS1
theorem b_newZ (X : bCx κ C cc Ts own rf rl mc ms) {n : Int32} {N kc' ks' : Nat} (harr : Cond.arrayClass .boolean ∈ Ts) (hn : ¬ n < 0) (hN : n.toNatClampNeg = N) (hb : N * 1 ≤ 536870912) (h1 : kc + 1 = kc') (h2 : ks + N = ks') (h3 : kc' ≤ mc) (h4 : ks' ≤ ms) (hd : decode cc pc = .ok (.newarray .boolean, 2)) (k : ∀ q, bV κ kc' ks' (pc + 2) lv (.ref q :: st) (ws ++ [(q, .inl (C 1, N, .inl (fun _ => 0)))])) : bV κ kc ks pc lv (.int n :: st) ws := by
  subst h1 h2
  obtain ⟨p, l, e, R, s, m, args, below, meth, cdd, D, A, Q, nL, kc0, ks0⟩ := κ
  intro ls H locs hl hP hD hS
  have hK := X.2.2.2.2.2.1.1.1
  refine va_newa (atype := .boolean) (a0 := (N, .inl (fun _ => 0))) X.1 X.2.1 (X.2.2.2.2.1 _ harr) rfl hK hP hD hS X.2.2.2.2.2.2.1 (fun _ => rfl) hn hN hb (Nat.le_trans h3 X.2.2.2.2.2.2.2.2.2.1) (Nat.le_trans h4 X.2.2.2.2.2.2.2.2.2.2) hd (fun q cA H1 hK1 hP1 hD1 hS1 => ?_)
  have e1 : s.vm.findClass ("[" ++ FieldType.boolean.toString) = some cA := (hK1.2 4 (cA, .boolean) rfl).2
  have e2 : s.vm.findClass ("[" ++ FieldType.boolean.toString) = some (C 1) := (hK.2 1 (C 1, .boolean) rfl).2
  have e3 : cA = C 1 := Option.some.inj (e1.symm.trans e2)
  subst e3
  exact k q ls H1 locs hl hP1 hD1 hS1
theorem b_newq (X : bCx κ C cc Ts own rf rl mc ms) {n : Int32} {N index kc' ks' : Nat} (hcl : Cond.classLink own index "LevelledInk$Card" ∈ Ts) (hn : ¬ n < 0) (hN : n.toNatClampNeg = N) (hb : N * 4 ≤ 536870912) (h1 : kc + 1 = kc') (h2 : ks + N = ks') (h3 : kc' ≤ mc) (h4 : ks' ≤ ms) (hd : decode cc pc = .ok (.anewarray index, 3)) (k : ∀ q, bV κ kc' ks' (pc + 3) lv (.ref q :: st) (ws ++ [(q, .inl (C 2, N, .inr (.inr (.inr (.inr (fun _ => none))))))])) : bV κ kc ks pc lv (.int n :: st) ws := by
  subst h1 h2
  obtain ⟨p, l, e, R, s, m, args, below, meth, cdd, D, A, Q, nL, kc0, ks0⟩ := κ
  intro ls H locs hl hP hD hS
  have hK := X.2.2.2.2.2.1.1.1
  refine va_newq X.1 X.2.1 X.2.2.2.1 (X.2.2.2.2.1 _ hcl) X.2.2.2.2.2.1.2.2.1 hK hP hD hS X.2.2.2.2.2.2.1 hn hN hb (Nat.le_trans h3 X.2.2.2.2.2.2.2.2.2.1) (Nat.le_trans h4 X.2.2.2.2.2.2.2.2.2.2) hd (fun q cA H1 hK1 hP1 hD1 hS1 => ?_)
  obtain ⟨_, _, _, _, _, e1⟩ := (hK1.2 4 (cA, .object "LevelledInk$Card") rfl).2
  obtain ⟨_, _, _, _, _, e2⟩ := (hK.2 2 (C 2, .object "LevelledInk$Card") rfl).2
  have e3 : cA = C 2 := Option.some.inj (e1.symm.trans e2)
  subst e3
  exact k q ls H1 locs hl hP1 hD1 hS1
theorem b_mna (X : bCx κ C cc Ts own rf rl mc ms) {n k : Int32} {N K index kc' ks' : Nat} (hcl : Cond.classLink own index "[[I" ∈ Ts) (harr : Cond.arrayClass .int ∈ Ts) (hn : ¬ n < 0) (hk : ¬ k < 0) (hN : n.toNatClampNeg = N) (hM : k.toNatClampNeg = K) (hb1 : N * 4 ≤ 536870912) (hb2 : K * 4 ≤ 536870912) (hb3 : K ≤ 536870912) (h1 : kc + 1 + N = kc') (h2 : ks + N + N * K = ks') (h3 : kc' ≤ mc) (h4 : ks' ≤ ms) (hd : decode cc pc = .ok (.multianewarray index 2, 4))
    (kk : ∀ (q : Nat) (r : Nat → Nat), bV κ kc' ks' (pc + 4) lv (.ref q :: st) ((ws ++ [(q, .inl (C 3, N, .inr (.inr (.inr (.inr (fun i => if i < N then some (r i) else none))))))]) ++ (List.range N).map (fun i => (r i, .inl (C 0, K, .inl (fun _ => 0)))))) : bV κ kc ks pc lv (.int k :: .int n :: st) ws := by
  subst h1 h2
  obtain ⟨p, l, e, R, s, m, args, below, meth, cdd, D, A, Q, nL, kc0, ks0⟩ := κ
  intro ls H locs hl hP hD hS
  have hK := X.2.2.2.2.2.1.1.1
  have c1 : kc + (1 + N) ≤ R.cells := by have := Nat.le_trans h3 X.2.2.2.2.2.2.2.2.2.1; omega
  have c2 : ks + (N + N * K) ≤ R.slots := by have := Nat.le_trans h4 X.2.2.2.2.2.2.2.2.2.2; omega
  have hw0 : ws ++ va_pl [] (fun _ => (.inr (0, []) : va_E)) = ws := List.append_nil ws
  refine va_mna (X := ws) (L := []) (f := fun _ => .inr (0, [])) (z := (K, .inl (fun _ => 0))) (ty := .int) (cy := C 0) X.1 X.2.1 X.2.2.2.1 (X.2.2.2.2.1 _ hcl) X.2.2.2.2.2.1.2.1 (X.2.2.2.2.1 _ harr) (hK.2 0 (C 0, .int) rfl).2 hK (by rw [hw0]; exact hP) (by rw [hw0]; exact hD) hS X.2.2.2.2.2.2.1 hn hk hN hM hb1 hb2 hb3 rfl rfl c1 c2 (fun c => ?_) hd (fun q r cA H1 hinj hnl hK1 hP1 hD1 hS1 => ?_)
  · rw [vp_cell_i]; exact arrV_new c K (.int 0)
  · have e1 : s.vm.findClass ("[" ++ (FieldType.array .int).toString) = some cA := (hK1.2 4 (cA, .array .int) rfl).2
    have e2 : s.vm.findClass ("[" ++ (FieldType.array .int).toString) = some (C 3) := (hK.2 3 (C 3, .array .int) rfl).2
    have e3 : cA = C 3 := Option.some.inj (e1.symm.trans e2)
    subst e3
    have hrw : va_pl ([] ++ (List.range N).map r) (vr_up (fun _ => (.inr (0, []) : va_E)) ((List.range N).map r) (.inl (C 0, K, .inl (fun _ => 0)))) = (List.range N).map (fun i => (r i, .inl (C 0, K, .inl (fun _ => 0)))) := by
      rw [← vr_rows (L := []) (fun _ _ h => by cases h)]
      show [] ++ _ = _
      rw [List.nil_append, List.map_map]; rfl
    rw [hrw] at hP1 hD1
    exact kk q r ls H1 locs hl hP1 hD1 hS1
theorem b_putI (X : bCx κ C cc Ts own rf rl mc ms) {a ci : Nat} {fs fs' : List Value} {C0 : String} {T : u_T} {N index : Nat} (hcl : vwCl[ci]? = some (C0, T, N)) (hin : ∀ w ∈ u_ws C0 T N, w ∈ Ts) (ty0 : Nat → FieldType) (hty : ∀ k, k < N → parseFieldDescriptor (T k).2.2.1 = some (ty0 k)) (hnm : ∀ a, a < N → ∀ b, b < N → a ≠ b → (T a).2.1 ≠ (T b).2.1) (j : Nat) (hj : j < N) (hlink : Cond.fieldLink own index (T j).1 (T j).2.1 (T j).2.2.1 ∈ Ts) (hfin : (T j).2.2.2 = false) {x : Int32} (hpf : parseFieldDescriptor (T j).2.2.1 = some .int) (hl0 : j < fs.length) (hs : fs.set j (.int x) = fs') (hd : decode cc pc = .ok (.putfield index, 3)) (k : bV κ kc ks (pc + 3) lv st ((a, .inr (ci, fs')) :: ws)) : bV κ kc ks pc lv (.int x :: .ref a :: st) ((a, .inr (ci, fs)) :: ws) := by
  subst hs
  obtain ⟨p, l, e, R, s, m, args, below, meth, cdd, D, A, Q, nL, kc0, ks0⟩ := κ
  exact fun ls H locs hl hP hD hS => va_put (fs := fs) (ty := .int) X.1 X.2.1 X.2.2.2.2.1 hin ty0 hty hnm X.2.2.2.1 X.2.2.2.2.2.1.1.1 hP hD hS 0 rfl hcl j hj (X.2.2.2.2.1 _ hlink) (fun _ h9 => h9) hfin hpf rfl rfl hl0 hd (fun H1 locs1 hP1 hD1 hS1 => k ls H1 locs1 hl hP1 hD1 hS1)
theorem b_putR (X : bCx κ C cc Ts own rf rl mc ms) (I : bIx κ) {a ci : Nat} {fs fs' : List Value} {C0 : String} {T : u_T} {N index : Nat} (hcl : vwCl[ci]? = some (C0, T, N)) (hin : ∀ w ∈ u_ws C0 T N, w ∈ Ts) (ty0 : Nat → FieldType) (hty : ∀ k, k < N → parseFieldDescriptor (T k).2.2.1 = some (ty0 k)) (hnm : ∀ a, a < N → ∀ b, b < N → a ≠ b → (T a).2.1 ≠ (T b).2.1) (j : Nat) (hj : j < N) (hlink : Cond.fieldLink own index (T j).1 (T j).2.1 (T j).2.2.1 ∈ Ts) (hfin : (T j).2.2.2 = true) (hdecl : (T j).1 = own) {x : Nat} {ty : FieldType} (hpf : parseFieldDescriptor (T j).2.2.1 = some ty) (hn : narrow ty (.ref x) = .ref x) (hfit : fits ty (.ref x) = true) (hl0 : j < fs.length) (hs : fs.set j (.ref x) = fs') (hd : decode cc pc = .ok (.putfield index, 3)) (k : bV κ kc ks (pc + 3) lv st ((a, .inr (ci, fs')) :: ws)) : bV κ kc ks pc lv (.ref x :: .ref a :: st) ((a, .inr (ci, fs)) :: ws) := by
  subst hs
  obtain ⟨p, l, e, R, s, m, args, below, meth, cdd, D, A, Q, nL, kc0, ks0⟩ := κ
  exact fun ls H locs hl hP hD hS => va_putF (fs := fs) (ty := ty) X.1 X.2.1 X.2.2.2.2.1 hin ty0 hty hnm X.2.2.2.1 X.2.2.2.2.2.1.1.1 hP hD hS 0 rfl hcl j hj (X.2.2.2.2.1 _ hlink) (fun _ h9 => h9) hfin I.2.2 hdecl hpf hn hfit hl0 hd (fun H1 locs1 hP1 hD1 hS1 => k ls H1 locs1 hl hP1 hD1 hS1)
theorem b_getf (X : bCx κ C cc Ts own rf rl mc ms) {a ci : Nat} {fs : List Value} {C0 : String} {T : u_T} {N index : Nat} (hcl : vwCl[ci]? = some (C0, T, N)) (hin : ∀ w ∈ u_ws C0 T N, w ∈ Ts) (j : Nat) (hj : j < N) (hlink : Cond.fieldLink own index (T j).1 (T j).2.1 (T j).2.2.1 ∈ Ts) {v : Value} (hv : fs[j]? = some v) (hd : decode cc pc = .ok (.getfield index, 3)) (k : bV κ kc ks (pc + 3) lv (v :: st) ((a, .inr (ci, fs)) :: ws)) : bV κ kc ks pc lv (.ref a :: st) ((a, .inr (ci, fs)) :: ws) := by
  obtain ⟨p, l, e, R, s, m, args, below, meth, cdd, D, A, Q, nL, kc0, ks0⟩ := κ
  exact fun ls H locs hl hP hD hS => va_get (fs := fs) X.1 X.2.1 X.2.2.2.2.1 hin X.2.2.2.1 X.2.2.2.2.2.1.1.1 hP 0 rfl hcl j hj (X.2.2.2.2.1 _ hlink) (fun _ h9 => h9) hv hd (k ls H locs hl hP hD hS)
theorem b_iast (X : bCx κ C cc Ts own rf rl mc ms) {a n : Nat} {f : Nat → Int32} {i x : Int32} (q0 : Nat) {ws' : va_W} (ha : ws[q0]? = some (a, .inl (C 0, n, .inl f))) (hin : vp_in i n) (hs : ws.set q0 (a, .inl (C 0, n, .inl (upd f i.toNatClampNeg x))) = ws') (hd : decode cc pc = .ok (.iastore, 1)) (k : bV κ kc ks (pc + 1) lv st ws') : bV κ kc ks pc lv (.int x :: .int i :: .ref a :: st) ws := by
  subst hs
  obtain ⟨p, l, e, R, s, m, args, below, meth, cdd, D, A, Q, nL, kc0, ks0⟩ := κ
  exact fun ls H locs hl hP hD hS => va_iast X.1 X.2.1 X.2.2.2.2.2.1.1.1 hP hD hS q0 0 ha rfl hin hd (fun H1 locs1 hP1 hD1 hS1 => k ls H1 locs1 hl hP1 hD1 hS1)
theorem b_aast (X : bCx κ C cc Ts own rf rl mc ms) {a n v : Nat} {vs : List Value} {f : Nat → Option Nat} {i : Int32} {x : Nat × va_E} (hv : (v, (.inr (1, vs) : va_E)) ∈ ws) (hin : vp_in i n) (hd : decode cc pc = .ok (.aastore, 1)) (k : bV κ kc ks (pc + 1) lv st (x :: (a, .inl (C 2, n, .inr (.inr (.inr (.inr (va_up f i.toNatClampNeg (some v))))))) :: ws)) : bV κ kc ks pc lv (.ref v :: .int i :: .ref a :: st) (x :: (a, .inl (C 2, n, .inr (.inr (.inr (.inr f))))) :: ws) := by
  obtain ⟨qk, hqk⟩ := List.getElem?_of_mem (List.mem_cons_of_mem x (List.mem_cons_of_mem (a, (.inl (C 2, n, .inr (.inr (.inr (.inr f)))) : va_E)) hv))
  obtain ⟨p, l, e, R, s, m, args, below, meth, cdd, D, A, Q, nL, kc0, ks0⟩ := κ
  exact fun ls H locs hl hP hD hS => va_astq X.1 X.2.1 X.2.2.2.2.2.1.1.1 hP hD hS 1 2 qk 1 (r := (RX2, TX2, 3)) rfl rfl hqk rfl hin hd (fun H1 locs1 hP1 hD1 hS1 => k ls H1 locs1 hl hP1 hD1 hS1)
theorem b_vret (X : bCx κ C cc Ts own rf rl mc ms) (I : bIx κ) {h0 c0 : Nat} {S : List Nat} (Z : bRx κ C h0 c0 S kc ks) (g : Nat → Nat) (hg : g c0 = h0) (hw : ws = bw (g, C) S) (hd : decode cc pc = .ok (.return_, 1)) : bV κ kc ks pc lv [] ws := by
  subst hw
  obtain ⟨p, l, e, R, s, m, args, below, meth, cdd, D, A, Q, nL, kc0, ks0⟩ := κ
  obtain rfl : Q = _ := Z
  exact fun ls H locs hl hP hD hS => W.vret X.1 X.2.1 I.1 (fun t ht hW => ⟨⟨g, rfl, hg, by rw [ht]; exact hP, hD⟩, hS.F ht⟩) hS.2.2 hd I.2.1
end BROWS
section BCALL
variable {κ : zK} {C : Nat → ClassId} {cc : ByteArray} {cd : Cond} {own : String} {rf rl mc ms kc ks pc : Nat} {lv : List (Nat × Value)} {st : List Value} {ws : va_W}
/-- a constructor's run, then what follows -/
theorem b_go {p : Program} {l : Launch} {e : Env} {R : Room} {s : State} {m : MethodId} {args : Array Value} {below : List Frame} {meth : Method} {c : Code} {H : Heap} {locs : List Loc} {mc1 ms1 : Nat} {Q : State → Prop} {ls : Array Slot} {st0 : List Value} {a : Array Value} {A : Nat → Prop} {D : va_G} {q c0 : Nat} {e1 : va_E} {S : List Nat}
    (hr : va_Run p l e R s m args below meth c H locs kc ks mc1 ms1 (F0 m pc ls st0) st (bQc D C q c0 S (va_A [(q, e1)] H.size) a) (va_A [(q, e1)] H.size)) (hP : va_P D vwCl (ws ++ [(q, e1)]) H) (hD : va_D A (ws ++ [(q, e1)])) (hS : va_S A s.heap H locs) (hA : ∀ q, s.heap.size ≤ q → A q)
    (k : ∀ g : Nat → Nat, g c0 = q → ∀ (H1 : Heap) (locs1 : List Loc), va_P D vwCl (ws ++ bw (g, C) S) H1 → va_D A (ws ++ bw (g, C) S) → va_S A s.heap H1 locs1 → W p l e R s m args below meth c H1 locs1 (kc + mc1) (ks + ms1) Q (F0 m (pc + 3) ls st)) : W p l e R s m args below meth c H locs kc ks Q (F0 m pc ls st0) := by
  have hFc : ∀ x, va_A [(q, e1)] H.size x → A x := va_free (wc := [(q, e1)]) hD hS hA [ws.length] (b_last ws _)
  refine va_callv hr hS (fun x _ h => hFc x h) hFc (fun g t H1 locs1 ht hvm hw hB hz1 hk1 hS1 => ?_)
  obtain ⟨hP1, hD1⟩ := hB
  rw [ht] at hP1
  obtain ⟨hPj, hDj⟩ := va_join (wr := ws) (w1 := bw (g, C) S) hP hD [ws.length] (List.range ws.length) (b_last ws _) (b_idx ws _) (va_nd_of _ List.nodup_range) (fun i hi h => by
    have h1 := List.mem_range.mp hi
    have h2 := List.mem_singleton.mp h
    omega) hk1 hFc hP1 hD1
  exact k g hw H1 locs1 hPj hDj hS1
theorem vaP_last {D : va_G} {cl : List vw_C} {x : Nat × va_E} {H : Heap} (hP : va_P D cl (ws ++ [x]) H) : va_P D cl [x] H := by
  intro k q hk
  obtain ⟨i, hi⟩ := List.getElem?_of_mem (List.mem_append_right ws (List.mem_of_getElem? hk))
  exact hP i q hi
theorem b_callN (X : bCx κ C cc (cd :: wsL_law) own rf rl mc ms) {y : MethodName} {fr lo mc1 ms1 maxL index kc' ks' : Nat} {cc1 : ByteArray} {e1 : va_E} {c0 : Nat} {S : List Nat} {q : Nat} {host : String} (hM : bCM κ.2.1 y (Cond.code y cc1 maxL none :: wsL_law) fr lo mc1 ms1 κ.2.2.2.2.2.2.2.2.2.2.1 C e1 c0 S) (hcode : Cond.code y cc1 maxL none ∈ wsL_law) (hnest : Cond.methodLinkNest own index y host ∈ bNest) (hini : Cond.initialized y.cls ∈ wsL_law) (hinst : Cond.instanceMethod y ∈ wsL_law) (hnm : y.name = "<init>")
    (hd2 : y.cls ≠ "java/lang/invoke/MethodHandle" ∧ y.cls ≠ "java/lang/invoke/VarHandle" ∧ (parseMethodDescriptor y.desc).map (fun d => d.parameters.length) = some 0) (hfr : fr + 1 ≤ rf) (hlo : 8 + (maxL + 11) + lo ≤ rl) (h1 : kc + mc1 = kc') (h2 : ks + ms1 = ks') (h3 : kc' ≤ mc) (h4 : ks' ≤ ms) (hst : (st.map fun v => v.category).sum ≤ 8) (hd : decode cc pc = .ok (.invokespecial index, 3))
    (k : ∀ g : Nat → Nat, g c0 = q → bV κ kc' ks' (pc + 3) lv st (ws ++ bw (g, C) S)) : bV κ kc ks pc lv (.ref q :: st) (ws ++ [(q, e1)]) := by
  subst h1 h2
  obtain ⟨p, l, e, R, s, m, args, below, meth, cdd, D, A, Q, nL, kc0, ks0⟩ := κ
  intro ls H locs hl hP hD hS
  have hX := X
  obtain ⟨hx, hb, hml, hown, hts, hK, hA, hrf, hrl, hkc, hks⟩ := hX
  exact b_go (D := D) (va_runIN (As := []) (rest := st) ⟨hx, hb, hml, hown, hts⟩ (hM q H.size) ⟨va_cnB 0 hts (zgood (List.forall_mem_cons.mpr ⟨hcode, fun _ h => h⟩)) rfl rfl rfl (hK.2.2.2 _ hnest) (hts _ (List.mem_cons_of_mem _ hini)) hd2 ⟨Nat.le_trans hfr hrf, Nat.le_trans hlo hrl⟩, hnm, hts _ (List.mem_cons_of_mem _ hinst)⟩ ⟨bPc_blind _ _ _ _ _, fun U hU hW => ⟨rfl, by rw [hU], by rw [hU]; exact vaP_last hP, hK.warm hW⟩⟩ rfl rfl hl.1 rfl (lv_room hst) hd ⟨Nat.le_trans h3 hkc, Nat.le_trans h4 hks⟩) hP hD hS hA (fun g hg H1 locs1 hP1 hD1 hS1 => k g hg ls H1 locs1 hl hP1 hD1 hS1)
theorem b_callI (X : bCx κ C cc (cd :: wsL_law) own rf rl mc ms) {y : MethodName} {fr lo mc1 ms1 maxL index kc' ks' : Nat} {cc1 : ByteArray} {e1 : va_E} {c0 : Nat} {S : List Nat} {q : Nat} (hM : bCM κ.2.1 y (Cond.code y cc1 maxL none :: wsL_law) fr lo mc1 ms1 κ.2.2.2.2.2.2.2.2.2.2.1 C e1 c0 S) (hcode : Cond.code y cc1 maxL none ∈ wsL_law) (hlink : Cond.methodLink own index y ∈ wsL_law) (hini : Cond.initialized y.cls ∈ wsL_law) (hinst : Cond.instanceMethod y ∈ wsL_law) (hnm : y.name = "<init>")
    (hd2 : y.cls ≠ "java/lang/invoke/MethodHandle" ∧ y.cls ≠ "java/lang/invoke/VarHandle" ∧ (parseMethodDescriptor y.desc).map (fun d => d.parameters.length) = some 0) (hfr : fr + 1 ≤ rf) (hlo : 8 + (maxL + 11) + lo ≤ rl) (h1 : kc + mc1 = kc') (h2 : ks + ms1 = ks') (h3 : kc' ≤ mc) (h4 : ks' ≤ ms) (hst : (st.map fun v => v.category).sum ≤ 8) (hd : decode cc pc = .ok (.invokespecial index, 3))
    (k : ∀ g : Nat → Nat, g c0 = q → bV κ kc' ks' (pc + 3) lv st (ws ++ bw (g, C) S)) : bV κ kc ks pc lv (.ref q :: st) (ws ++ [(q, e1)]) := by
  subst h1 h2
  obtain ⟨p, l, e, R, s, m, args, below, meth, cdd, D, A, Q, nL, kc0, ks0⟩ := κ
  intro ls H locs hl hP hD hS
  have hX := X
  obtain ⟨hx, hb, hml, hown, hts, hK, hA, hrf, hrl, hkc, hks⟩ := hX
  exact b_go (D := D) (va_runI (As := []) (rest := st) ⟨hx, hb, hml, hown, hts⟩ (hM q H.size) (cwI 0 hts (zgood (List.forall_mem_cons.mpr ⟨hcode, fun _ h => h⟩)) rfl rfl rfl (hts _ (List.mem_cons_of_mem _ hini)) (hts _ (List.mem_cons_of_mem _ hlink)) (hts _ (List.mem_cons_of_mem _ hinst)) hnm hd2 ⟨Nat.le_trans hfr hrf, Nat.le_trans hlo hrl⟩) ⟨bPc_blind _ _ _ _ _, fun U hU hW => ⟨rfl, by rw [hU], by rw [hU]; exact vaP_last hP, hK.warm hW⟩⟩ rfl rfl hl.1 rfl (lv_room hst) hd ⟨Nat.le_trans h3 hkc, Nat.le_trans h4 hks⟩) hP hD hS hA (fun g hg H1 locs1 hP1 hD1 hS1 => k g hg ls H1 locs1 hl hP1 hD1 hS1)
end BCALL
