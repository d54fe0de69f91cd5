/-! the flat memory: cell, slot -/
abbrev zMem : Type := Nat → Nat → Int32
def zwr (M : zMem) (c k : Nat) (x : Int32) : zMem := fun c' => if c' = c then upd (M c) k x else M c'
def zwa (M : zMem) (c : Nat) (f : Nat → Int32) : zMem := fun c' => if c' = c then f else M c'
theorem zwr_same (M : zMem) (c k : Nat) (x : Int32) : zwr M c k x c = upd (M c) k x := if_pos rfl
theorem zwr_ne (M : zMem) {c c' : Nat} (k : Nat) (x : Int32) (h : c' ≠ c) : zwr M c k x c' = M c' := if_neg h
theorem zwa_same (M : zMem) (c : Nat) (f : Nat → Int32) : zwa M c f c = f := if_pos rfl
theorem zwa_ne (M : zMem) {c c' : Nat} (f : Nat → Int32) (h : c' ≠ c) : zwa M c f c' = M c' := if_neg h
abbrev zFd : Type := Nat × Nat
abbrev zCd : Type := (Nat × List zFd) ⊕ (Nat × Nat) ⊕ (Nat × Nat × Nat)
def zlayL : List zCd := [.inl (5, [(0, 1), (0, 13), (0, 22), (0, 26), (0, 32), (0, 59), (1, 0)]), .inl (3, [(0, 2), (0, 3), (0, 4), (1, 0), (1, 0), (1, 0)]), .inr (.inl (0, 24)), .inr (.inl (0, 24)), .inr (.inr (3, 8, 5)), .inr (.inl (0, 24)), .inr (.inl (0, 24)), .inr (.inl (0, 24)), .inr (.inl (0, 24)), .inr (.inl (0, 24)), .inr (.inl (0, 24)), .inr (.inl (0, 24)), .inr (.inl (0, 24)), .inr (.inr (2, 4, 14)), .inl (1, [(0, 18), (1, 0), (1, 0)]), .inl (1, [(0, 19), (1, 0), (1, 0)]), .inl (1, [(0, 20), (1, 0), (1, 0)]), .inl (1, [(0, 21), (1, 0), (1, 0)]), .inr (.inl (0, 32)), .inr (.inl (0, 32)), .inr (.inl (0, 32)), .inr (.inl (0, 32)), .inl (2, [(0, 23), (0, 24), (0, 25), (1, 0), (1, 0), (1, 0)]), .inr (.inl (0, 86)), .inr (.inl (0, 33)), .inr (.inl (1, 33)), .inl (4, [(0, 27), (0, 28), (0, 29), (0, 30), (0, 31), (1, 0), (1, 0)]), .inr (.inl (0, 384)), .inr (.inl (0, 384)), .inr (.inl (0, 384)), .inr (.inl (0, 384)), .inr (.inl (0, 384)), .inl (0, [(0, 33), (0, 58), (1, 0), (1, 0), (1, 0), (1, 0), (1, 0)]), .inr (.inr (3, 24, 34)), .inr (.inl (0, 32)), .inr (.inl (0, 32)), .inr (.inl (0, 32)), .inr (.inl (0, 32)), .inr (.inl (0, 32)), .inr (.inl (0, 32)), .inr (.inl (0, 32)), .inr (.inl (0, 32)), .inr (.inl (0, 32)), .inr (.inl (0, 32)), .inr (.inl (0, 32)), .inr (.inl (0, 32)), .inr (.inl (0, 32)), .inr (.inl (0, 32)), .inr (.inl (0, 32)), .inr (.inl (0, 32)), .inr (.inl (0, 32)), .inr (.inl (0, 32)), .inr (.inl (0, 32)), .inr (.inl (0, 32)), .inr (.inl (0, 32)), .inr (.inl (0, 32)), .inr (.inl (0, 32)), .inr (.inl (0, 32)), .inr (.inl (0, 24)), .inr (.inl (0, 32)), .inl (6, [(1, 0), (1, 0), (0, 61), (0, 62), (0, 63), (0, 64), (0, 65), (1, 0), (0, 66), (0, 67), (1, 0), (0, 68), (0, 69), (1, 0), (0, 70), (0, 71), (0, 72), (0, 73), (1, 0), (0, 74), (1, 0), (1, 0), (0, 75), (0, 76), (2, 0), (1, 0)]), .inr (.inl (1, 768)), .inr (.inl (0, 4)), .inr (.inl (0, 4)), .inr (.inl (0, 128)), .inr (.inl (0, 201)), .inr (.inl (0, 33)), .inr (.inl (0, 33)), .inr (.inl (1, 6144)), .inr (.inl (1, 768)), .inr (.inl (0, 384)), .inr (.inl (0, 384)), .inr (.inl (0, 384)), .inr (.inl (0, 384)), .inr (.inl (0, 768)), .inr (.inl (0, 24)), .inr (.inl (0, 24))]
def zlay (c : Nat) : zCd := zlayL.getD c (.inr (.inl (0, 0)))
abbrev zG : Type := (Nat → Nat) × (Nat → ClassId)
def zfv (G : zG) (M : zMem) (F : Int64) (c k : Nat) (f : zFd) : Value := if f.1 = 0 then .ref (G.1 f.2) else if f.1 = 1 then .int (M c k) else .long F
def zfvs (G : zG) (M : zMem) (F : Int64) (c : Nat) (fds : List zFd) : List Value := fds.zipIdx.map (fun q => zfv G M F c q.2 q.1)
def zent (G : zG) (M : zMem) (F : Int64) (c : Nat) (d : zCd) : va_E := match d with
  | .inl o => .inr (o.1, zfvs G M F c o.2)
  | .inr (.inl a) => .inl (G.2 a.1, a.2, .inl (M c))
  | .inr (.inr a) => .inl (G.2 a.1, a.2.1, .inr (.inr (.inr (.inr (fun j => if j < a.2.1 then some (G.1 (a.2.2 + j)) else none)))))
def zwld (G : zG) (M : zMem) (F : Int64) : va_W := (List.range 77).map (fun c => (G.1 c, zent G M F c (zlay c)))
theorem zwld_get (G : zG) (M : zMem) (F : Int64) {c : Nat} (h : c < 77) : (zwld G M F)[c]? = some (G.1 c, zent G M F c (zlay c)) := by
  simp [zwld, List.getElem?_map, List.getElem?_range h]
theorem zwld_len (G : zG) (M : zMem) (F : Int64) : (zwld G M F).length = 77 := by simp [zwld]
theorem zfvs_get (G : zG) (M : zMem) (F : Int64) (c : Nat) (fds : List zFd) (k : Nat) : (zfvs G M F c fds)[k]? = fds[k]?.map (fun f => zfv G M F c k f) := by
  simp [zfvs, List.getElem?_map, List.getElem?_zipIdx, Option.map_map, Function.comp_def]
theorem zfvs_len (G : zG) (M : zMem) (F : Int64) (c : Nat) (fds : List zFd) : (zfvs G M F c fds).length = fds.length := by simp [zfvs]
theorem zent_congr {G : zG} {M M' : zMem} {F : Int64} {c : Nat} (h : M' c = M c) (d : zCd) : zent G M' F c d = zent G M F c d := by
  rcases d with o | a | a
  · simp only [zent, zfvs, zfv, h]
  · simp only [zent, h]
  · rfl
theorem zwld_set {G : zG} {M M' : zMem} {F F' : Int64} {c : Nat} {e : va_E} (hc : c < 77) (he : zent G M' F' c (zlay c) = e) (ho : ∀ c', c' < 77 → c' ≠ c → zent G M' F' c' (zlay c') = zent G M F c' (zlay c')) : (zwld G M F).set c (G.1 c, e) = zwld G M' F' := by
  apply List.ext_getElem?
  intro i
  rw [List.getElem?_set]
  by_cases hi : i < 77
  · rw [zwld_get G M' F' hi]
    by_cases hci : c = i
    · subst hci
      rw [if_pos rfl, if_pos (by rw [zwld_len]; exact hc), he]
    · rw [if_neg hci, zwld_get G M F hi, ho i hi (fun q => hci q.symm)]
  · have h1 : (zwld G M F)[i]? = none := List.getElem?_eq_none (by rw [zwld_len]; omega)
    have h2 : (zwld G M' F')[i]? = none := List.getElem?_eq_none (by rw [zwld_len]; omega)
    rw [h1, h2]
    by_cases hci : c = i
    · omega
    · rw [if_neg hci]
theorem zfvs_put {G : zG} {M : zMem} {F : Int64} {c k z : Nat} {fds : List zFd} (hk : fds[k]? = some (1, z)) (x : Int32) : (zfvs G M F c fds).set k (.int x) = zfvs G (zwr M c k x) F c fds := by
  apply List.ext_getElem?
  intro i
  have hl : k < fds.length := (List.getElem?_eq_some_iff.mp hk).1
  rw [List.getElem?_set, zfvs_get, zfvs_get, zfvs_len]
  by_cases hi : k = i
  · subst hi
    rw [if_pos rfl, if_pos hl, hk]
    simp [zfv, zwr, upd]
  · rw [if_neg hi]
    cases h : fds[i]? with
    | none => rfl
    | some f =>
      have : ¬ i = k := fun q => hi q.symm
      simp [zfv, zwr, upd, this]
theorem zfvs_putL {G : zG} {M : zMem} {F : Int64} {c k z : Nat} {fds : List zFd} (hk : fds[k]? = some (2, z)) (h1 : ∀ i f, fds[i]? = some f → i ≠ k → f.1 = 0 ∨ f.1 = 1) (x : Int64) : (zfvs G M F c fds).set k (.long x) = zfvs G M x c fds := by
  apply List.ext_getElem?
  intro i
  have hl : k < fds.length := (List.getElem?_eq_some_iff.mp hk).1
  rw [List.getElem?_set, zfvs_get, zfvs_get, zfvs_len]
  by_cases hi : k = i
  · subst hi
    rw [if_pos rfl, if_pos hl, hk]
    simp [zfv]
  · rw [if_neg hi]
    cases h : fds[i]? with
    | none => rfl
    | some f =>
      rcases h1 i f h (fun q => hi q.symm) with q | q <;> simp [zfv, q]
/-- the array classes: int, boolean, Card, int[] -/
def ztys (G : zG) : List (ClassId × FieldType) := [(G.2 0, .int), (G.2 1, .boolean), (G.2 2, .object "LevelledInk$Card"), (G.2 3, .array .int)]
def zNest : List Cond := [.methodLinkNest RX4 37 yX6_isRow RX6, .methodLinkNest RX0 86 yX6_isRow RX6, .methodLinkNest RX3 42 yX6_isShear RX6, .methodLinkNest RX3 75 yX6_shiftOf RX6]
def zKK (D : va_G) (G : zG) (U : State) : Prop := va_K D vwCl (ztys G) U ∧ ∀ w ∈ zNest, va_Nw w U
theorem zNest_warm {s U : State} (hW : s.WarmedH U.vm) {w : Cond} (hw : w ∈ zNest) (h : va_Nw w s) : va_Nw w U := by
  simp only [zNest, List.mem_cons, List.not_mem_nil, or_false] at hw
  rcases hw with rfl | rfl | rfl | rfl <;> exact va_Nw.warmM hW h
theorem zNest_same {u U : State} (hv : u.vm = U.vm) {w : Cond} (hw : w ∈ zNest) (h : va_Nw w u) : va_Nw w U := by
  simp only [zNest, List.mem_cons, List.not_mem_nil, or_false] at hw
  rcases hw with rfl | rfl | rfl | rfl <;> exact va_Nw.same rfl hv h
theorem zKK.warm {D : va_G} {G : zG} {s U : State} (h : zKK D G s) (hW : s.WarmedH U.vm) : zKK D G U := ⟨va_K.moved hW.alike h.1, fun w hw => zNest_warm hW hw (h.2 w hw)⟩
/-- the addresses are apart, and of a kind -/
def zDD (G : zG) (A : Nat → Prop) : Prop := (∀ i j : Nat, i < 77 → j < 77 → G.1 i = G.1 j → i = j) ∧ ∀ i : Nat, i < 77 → A (G.1 i)
theorem zDD.D {G : zG} {A : Nat → Prop} (h : zDD G A) (M : zMem) (F : Int64) : va_D A (zwld G M F) := by
  have lt : ∀ (k : Nat) (q : Nat × va_E), (zwld G M F)[k]? = some q → k < 77 ∧ q.1 = G.1 k := by
    intro k q hk
    have hl : k < 77 := by
      have := (List.getElem?_eq_some_iff.mp hk).1
      rwa [zwld_len] at this
    rw [zwld_get G M F hl] at hk
    exact ⟨hl, by rw [← Option.some.inj hk]⟩
  refine ⟨fun i j p q hi hj hpq => ?_, fun k q hk => ?_⟩
  · obtain ⟨h1, e1⟩ := lt i p hi
    obtain ⟨h2, e2⟩ := lt j q hj
    exact h.1 i j h1 h2 (by rw [← e1, ← e2]; exact hpq)
  · obtain ⟨h1, e1⟩ := lt k q hk
    rw [e1]
    exact h.2 k h1
theorem zDD.of {G : zG} {A : Nat → Prop} {M : zMem} {F : Int64} (h : va_D A (zwld G M F)) : zDD G A :=
  ⟨fun i j hi hj e => h.1 i j _ _ (zwld_get G M F hi) (zwld_get G M F hj) e, fun i hi => h.2 i _ (zwld_get G M F hi)⟩
theorem zA_eq {G : zG} {M M' : zMem} {F F' : Int64} {sz : Nat} : ∀ q, va_A (zwld G M F) sz q → va_A (zwld G M' F') sz q := by
  intro q h
  rcases h with ⟨k, e, h⟩ | h
  · have hl : k < 77 := by
      have := (List.getElem?_eq_some_iff.mp h).1
      rwa [zwld_len] at this
    rw [zwld_get G M F hl] at h
    have e1 : G.1 k = q := congrArg Prod.fst (Option.some.inj h)
    exact Or.inl ⟨k, _, by rw [zwld_get G M' F' hl, e1]⟩
  · exact Or.inr h
abbrev zK : Type := Program × Launch × Env × Room × State × MethodId × Array Value × List Frame × Method × Code × va_G × (Nat → Prop) × (State → Prop) × Nat × Nat × Nat
def zV (κ : zK) (G : zG) (pc : Nat) (lv : List (Nat × Value)) (st : List Value) (M : zMem) (F : Int64) : Prop := match κ with
  | (p, l, e, R, s, m, args, below, meth, c, D, A, Q, nL, kc, ks) => ∀ (ls : Array Slot) (H : Heap) (locs : List Loc), lv_has ls nL lv → va_P D vwCl (zwld G M F) H → va_S A s.heap H locs → W p l e R s m args below meth c H locs kc ks Q (F0 m pc ls st)
def zCx (κ : zK) (G : zG) (cc : ByteArray) (Ts : List Cond) (own : String) (ret : Option FieldType) (rf rl : Nat) : Prop := match κ with
  | (p, _, _, R, s, m, args, _, meth, c, D, A, _, nL, kc, ks) => p.tables.exec = Jvm.exec ∧ c.code = cc ∧ c.maxLocals = nL ∧ s.vm.findClass own = some m.cls ∧ (∀ w ∈ Ts, w.before args s = true) ∧ zKK D G s ∧ zDD G A ∧ (∀ q, s.heap.size ≤ q → A q) ∧ meth.sig.returnType = ret ∧ meth.locks = false ∧ rf ≤ R.frames ∧ rl ≤ R.locals ∧ kc ≤ R.cells ∧ ks ≤ R.slots
/-- a method's end -/
def zQx (D : va_G) (G : zG) (rv : Option Value) (M : zMem) (F : Int64) (A : Nat → Prop) : Array Value → State → Outcome → State → Prop := fun _ st oc t => (oc = .returned rv ∧ va_P D vwCl (zwld G M F) t.heap) ∧ va_F A st t
def zRx (κ : zK) (G : zG) (rv : Option Value) (M : zMem) (F : Int64) : Prop := match κ with
  | (_, _, _, _, s, _, args, below, _, _, D, A, Q, _, kc, ks) => Q = MQ below (zQx D G rv M F A) args s 0 0 A ∧ kc = 0 ∧ ks = 0
def zPc (D : va_G) (G : zG) (av : List Value) (M : zMem) (F : Int64) (sz : Nat) : Array Value → State → Prop := va_Pc av (fun U => U.heap.size = sz ∧ va_P D vwCl (zwld G M F) U.heap ∧ zKK D G U ∧ zDD G (fun _ => True))
/-- a method's contract -/
def zCM (l : Launch) (y : MethodName) (ws : List Cond) (rm : Room) (D : va_G) (G : zG) (av : List Value) (M : zMem) (F : Int64) (rv : Option Value) (M' : zMem) (F' : Int64) : Prop :=
  ∀ sz : Nat, Met l y ws rm (zPc D G av M F sz) (zQx D G rv M' F' (va_A (zwld G M F) sz)) 0 0 (va_A (zwld G M F) sz)
theorem zPc_blind (D : va_G) (G : zG) (av : List Value) (M : zMem) (F : Int64) (sz : Nat) : FrameBlind (zPc D G av M F sz) := by
  intro a U g mk q
  obtain ⟨q0, q1, qP, qK, qD⟩ := q
  exact ⟨q0, q1, qP, ⟨va_K.moved (u := U) (U := U.calling g mk a) (Vm.Alike.refl U.vm) qK.1, fun w hw => zNest_same (u := U) (U := U.calling g mk a) rfl hw (qK.2 w hw)⟩, qD⟩
theorem zCM.ofV {l : Launch} {y : MethodName} {ws ws' : List Cond} {fr lo : Nat} {D : va_G} {G : zG} {av : List Value} {M : zMem} {F : Int64} {rv : Option Value} {M' : zMem} {F' : Int64} {cc : ByteArray} {maxL : Nat} {ret : Option FieldType} {lv : List (Nat × Value)} {own : String}
    (hy : plainName y.cls = true) (ho : y.cls = own) (hw : ws = Cond.code y cc maxL ret :: ws') (hn : (lg_sl av).length ≤ maxL) (hlv : lv_args 0 av = lv)
    (body : ∀ κ : zK, zCx κ G cc ws own ret fr lo → zRx κ G rv M' F' → κ.2.2.2.2.2.2.2.2.2.2.2.2.2.1 = maxL → κ.2.1 = l → κ.2.2.2.2.2.2.2.2.2.2.1 = D → zV κ G 0 lv [] M F) : zCM l y ws { frames := fr, cells := 0, slots := 0, locals := lo } D G av M F rv M' F' := by
  intro sz
  refine Met.ofW (cc := cc) (maxL := maxL) (ret := ret) hy hw ?_
  intro p e s m args below meth c s₁ B hml hv
  obtain ⟨rfl, hsz, hP, hK, hD0⟩ := hv
  subst hsz
  have hl := lv_entry av (n := maxL) hn
  rw [lg_entry_eq]
  have hDD : zDD G (va_A (zwld G M F) s.heap.size) := ⟨hD0.1, fun i hi => va_A.in (zwld_get G M F hi)⟩
  have X : zCx (p, l, e, { frames := fr, cells := 0, slots := 0, locals := lo }, s, m, av.toArray, below, meth, c, D, va_A (zwld G M F) s.heap.size, MQ below (zQx D G rv M' F' (va_A (zwld G M F) s.heap.size)) av.toArray s 0 0 (va_A (zwld G M F) s.heap.size), maxL, 0, 0) G cc ws own ret fr lo :=
    ⟨B.exec, B.bytes, hml, ho ▸ findClass_of_methodNamed B.named, atoms_spec (ws := ws) B.pre, hK, hDD, fun q h => Or.inr h, B.returns, B.notSynchronized, Nat.le_refl _, Nat.le_refl _, Nat.le_refl _, Nat.le_refl _⟩
  exact body _ X ⟨rfl, rfl, rfl⟩ rfl rfl rfl _ _ _ (by rw [← hlv]; exact hl) hP va_S.rf
theorem zMet.ofWF {l : Launch} {y : MethodName} {ws ws' : List Cond} {rm : Room} {Pc : Array Value → State → Prop} {Qc : Array Value → State → Outcome → State → Prop} {mc ms : Nat} {free : Addr → Prop} {cc : ByteArray} {maxL : Nat} {ret : Option FieldType}
    (hy : plainFor y = true) (hw : ws = Cond.code y cc maxL ret :: ws')
    (body : ∀ p e s m args below meth c s₁, BodyLoose p l y (headSpec ws rm) cc maxL ret e s m args below meth c s₁ → c.maxLocals = maxL → Pc args s →
      W p l e (headSpec ws rm).room s m args below meth c s.heap [] 0 0 (MQ below Qc args s mc ms free) (entryFrame m args maxL)) : Met l y ws rm Pc Qc mc ms free := by
  refine MetFree.of_bodySF (code := cc) (maxLocals := maxL) (ret := ret) hy ?_ ?_
  · intro args s m h hn
    obtain ⟨meth, c, h1, h2, h3, h4, h5, h6, -, -⟩ := Cond.code_spec hn (atoms_spec (ws := ws) h _ (by rw [hw]; exact List.mem_cons_self))
    exact ⟨meth, c, h1, h2, h3, h4, h5, h6⟩
  · intro p e s m args below meth c s₁ B hml hP _
    have hh0 : s₁.heap = s.heap := by rw [B.state]; rfl
    obtain ⟨t, a1, o, b1, b2, b3⟩ := body p e s m args below meth c s₁ B hml hP s₁ hh0 (Stand.of_body B)
    exact ⟨t, o, a1, b1, b2, ⟨b3.1, b3.2⟩⟩
theorem zCM.ofVF {l : Launch} {y : MethodName} {ws ws' : List Cond} {fr lo : Nat} {D : va_G} {G : zG} {av : List Value} {M : zMem} {F : Int64} {rv : Option Value} {M' : zMem} {F' : Int64} {cc : ByteArray} {maxL : Nat} {ret : Option FieldType} {lv : List (Nat × Value)} {own : String}
    (hy : plainFor y = true) (ho : y.cls = own) (hw : ws = Cond.code y cc maxL ret :: ws') (hn : (lg_sl av).length ≤ maxL) (hlv : lv_args 0 av = lv)
    (body : ∀ κ : zK, zCx κ G cc ws own ret fr lo → zRx κ G rv M' F' → κ.2.2.2.2.2.2.2.2.2.2.2.2.2.1 = maxL → κ.2.1 = l → κ.2.2.2.2.2.2.2.2.2.2.1 = D → zV κ G 0 lv [] M F) : zCM l y ws { frames := fr, cells := 0, slots := 0, locals := lo } D G av M F rv M' F' := by
  intro sz
  refine zMet.ofWF (cc := cc) (maxL := maxL) (ret := ret) hy hw ?_
  intro p e s m args below meth c s₁ B hml hv
  obtain ⟨rfl, hsz, hP, hK, hD0⟩ := hv
  subst hsz
  have hl := lv_entry av (n := maxL) hn
  rw [lg_entry_eq]
  have hDD : zDD G (va_A (zwld G M F) s.heap.size) := ⟨hD0.1, fun i hi => va_A.in (zwld_get G M F hi)⟩
  have X : zCx (p, l, e, { frames := fr, cells := 0, slots := 0, locals := lo }, s, m, av.toArray, below, meth, c, D, va_A (zwld G M F) s.heap.size, MQ below (zQx D G rv M' F' (va_A (zwld G M F) s.heap.size)) av.toArray s 0 0 (va_A (zwld G M F) s.heap.size), maxL, 0, 0) G cc ws own ret fr lo :=
    ⟨B.exec, B.bytes, hml, ho ▸ findClass_of_methodNamed B.named, atoms_spec (ws := ws) B.pre, hK, hDD, fun q h => Or.inr h, B.returns, B.notSynchronized, Nat.le_refl _, Nat.le_refl _, Nat.le_refl _, Nat.le_refl _⟩
  exact body _ X ⟨rfl, rfl, rfl⟩ rfl rfl rfl _ _ _ (by rw [← hlv]; exact hl) hP va_S.rf

section ZROWS
variable {κ : zK} {G : zG} {cc : ByteArray} {Ts : List Cond} {own : String} {ret : Option FieldType} {rf rl : Nat} {pc : Nat} {lv : List (Nat × Value)} {st : List Value} {M : zMem} {F : Int64}
theorem z_iconst (X : zCx κ G cc Ts own ret rf rl) {n : Int} {v : Int32} (hd : decode cc pc = .ok (.iconst n, 1)) (hv : Int32.ofInt n = v) (k : zV κ G (pc + 1) lv (.int v :: st) M F) : zV κ G pc lv (st) M F := by
  obtain ⟨p, l, e, R, s, m, args, below, meth, cdd, D, A, Q, nL, kc, ks⟩ := κ
  exact fun ls H locs hl hP hS => lv_iconst X.1 X.2.1 hd hv (k ls H locs hl hP hS)
theorem z_bipush (X : zCx κ G cc Ts own ret rf rl) {n : Int} {v : Int32} (hd : decode cc pc = .ok (.bipush n, 2)) (hv : (Int8.ofInt n).toInt32 = v) (k : zV κ G (pc + 2) lv (.int v :: st) M F) : zV κ G pc lv (st) M F := by
  obtain ⟨p, l, e, R, s, m, args, below, meth, cdd, D, A, Q, nL, kc, ks⟩ := κ
  exact fun ls H locs hl hP hS => lv_bipush X.1 X.2.1 hd hv (k ls H locs hl hP hS)
theorem z_sipush (X : zCx κ G cc Ts own ret rf rl) {n : Int} {v : Int32} (hd : decode cc pc = .ok (.sipush n, 3)) (hv : (Int16.ofInt n).toInt32 = v) (k : zV κ G (pc + 3) lv (.int v :: st) M F) : zV κ G pc lv (st) M F := by
  obtain ⟨p, l, e, R, s, m, args, below, meth, cdd, D, A, Q, nL, kc, ks⟩ := κ
  exact fun ls H locs hl hP hS => lv_sipush X.1 X.2.1 hd hv (k ls H locs hl hP hS)
theorem z_lconst (X : zCx κ G cc Ts own ret rf rl) {n : Fin 2} {v : Int64} (hd : decode cc pc = .ok (.lconst n, 1)) (hv : Int64.ofNat (n : Nat) = v) (k : zV κ G (pc + 1) lv (.long v :: st) M F) : zV κ G pc lv (st) M F := by
  obtain ⟨p, l, e, R, s, m, args, below, meth, cdd, D, A, Q, nL, kc, ks⟩ := κ
  exact fun ls H locs hl hP hS => lv_lconst X.1 X.2.1 hd hv (k ls H locs hl hP hS)
theorem z_ldc (X : zCx κ G cc Ts own ret rf rl) {n : Nat} {v : Int32} (hd : decode cc pc = .ok (.ldc n, 2)) (hw : Cond.constant own n v ∈ Ts) (k : zV κ G (pc + 2) lv (.int v :: st) M F) : zV κ G pc lv (st) M F := by
  obtain ⟨p, l, e, R, s, m, args, below, meth, cdd, D, A, Q, nL, kc, ks⟩ := κ
  exact fun ls H locs hl hP hS => lv_ldc X.1 X.2.1 X.2.2.2.1 (X.2.2.2.2.1 _ hw) hd (k ls H locs hl hP hS)
theorem z_ldcw (X : zCx κ G cc Ts own ret rf rl) {n : Nat} {v : Int32} (hd : decode cc pc = .ok (.ldc_w n, 3)) (hw : Cond.constant own n v ∈ Ts) (k : zV κ G (pc + 3) lv (.int v :: st) M F) : zV κ G pc lv (st) M F := by
  obtain ⟨p, l, e, R, s, m, args, below, meth, cdd, D, A, Q, nL, kc, ks⟩ := κ
  exact fun ls H locs hl hP hS => lv_ldcw X.1 X.2.1 X.2.2.2.1 (X.2.2.2.2.1 _ hw) hd (k ls H locs hl hP hS)
theorem z_ldc2 (X : zCx κ G cc Ts own ret rf rl) {n : Nat} {v : Int64} (hd : decode cc pc = .ok (.ldc2_w n, 3)) (hw : Cond.constantLong own n v ∈ Ts) (k : zV κ G (pc + 3) lv (.long v :: st) M F) : zV κ G pc lv (st) M F := by
  obtain ⟨p, l, e, R, s, m, args, below, meth, cdd, D, A, Q, nL, kc, ks⟩ := κ
  exact fun ls H locs hl hP hS => lv_ldc2 X.1 X.2.1 X.2.2.2.1 (X.2.2.2.2.1 _ hw) hd (k ls H locs hl hP hS)
theorem z_iload_n (X : zCx κ G cc Ts own ret rf rl) {n : Fin 4} {i : Nat} {x : Int32} (hd : decode cc pc = .ok (.iload_n n, 1)) (hi : (n : Nat) = i) (j : Nat) (hj : lv[j]? = some (i, .int x)) (k : zV κ G (pc + 1) lv (.int x :: st) M F) : zV κ G pc lv (st) M F := by
  obtain ⟨p, l, e, R, s, m, args, below, meth, cdd, D, A, Q, nL, kc, ks⟩ := κ
  exact fun ls H locs hl hP hS => lv_iload_n X.1 X.2.1 hd hi (lv_at hl j hj) (k ls H locs hl hP hS)
theorem z_iload (X : zCx κ G cc Ts own ret rf rl) {i : Nat} {x : Int32} (hd : decode cc pc = .ok (.iload i, 2)) (j : Nat) (hj : lv[j]? = some (i, .int x)) (k : zV κ G (pc + 2) lv (.int x :: st) M F) : zV κ G pc lv (st) M F := by
  obtain ⟨p, l, e, R, s, m, args, below, meth, cdd, D, A, Q, nL, kc, ks⟩ := κ
  exact fun ls H locs hl hP hS => lv_iload X.1 X.2.1 hd (lv_at hl j hj) (k ls H locs hl hP hS)
theorem z_lload_n (X : zCx κ G cc Ts own ret rf rl) {n : Fin 4} {i : Nat} {x : Int64} (hd : decode cc pc = .ok (.lload_n n, 1)) (hi : (n : Nat) = i) (j : Nat) (hj : lv[j]? = some (i, .long x)) (k : zV κ G (pc + 1) lv (.long x :: st) M F) : zV κ G pc lv (st) M F := by
  obtain ⟨p, l, e, R, s, m, args, below, meth, cdd, D, A, Q, nL, kc, ks⟩ := κ
  exact fun ls H locs hl hP hS => lv_lload_n X.1 X.2.1 hd hi (lv_at hl j hj) (k ls H locs hl hP hS)
theorem z_lload (X : zCx κ G cc Ts own ret rf rl) {i : Nat} {x : Int64} (hd : decode cc pc = .ok (.lload i, 2)) (j : Nat) (hj : lv[j]? = some (i, .long x)) (k : zV κ G (pc + 2) lv (.long x :: st) M F) : zV κ G pc lv (st) M F := by
  obtain ⟨p, l, e, R, s, m, args, below, meth, cdd, D, A, Q, nL, kc, ks⟩ := κ
  exact fun ls H locs hl hP hS => lv_lload X.1 X.2.1 hd (lv_at hl j hj) (k ls H locs hl hP hS)
theorem z_aload_n (X : zCx κ G cc Ts own ret rf rl) {n : Fin 4} {i : Nat} {x : Nat} (hd : decode cc pc = .ok (.aload_n n, 1)) (hi : (n : Nat) = i) (j : Nat) (hj : lv[j]? = some (i, .ref x)) (k : zV κ G (pc + 1) lv (.ref x :: st) M F) : zV κ G pc lv (st) M F := by
  obtain ⟨p, l, e, R, s, m, args, below, meth, cdd, D, A, Q, nL, kc, ks⟩ := κ
  exact fun ls H locs hl hP hS => lv_aload_n X.1 X.2.1 hd hi (lv_at hl j hj) (k ls H locs hl hP hS)
theorem z_aload (X : zCx κ G cc Ts own ret rf rl) {i : Nat} {x : Nat} (hd : decode cc pc = .ok (.aload i, 2)) (j : Nat) (hj : lv[j]? = some (i, .ref x)) (k : zV κ G (pc + 2) lv (.ref x :: st) M F) : zV κ G pc lv (st) M F := by
  obtain ⟨p, l, e, R, s, m, args, below, meth, cdd, D, A, Q, nL, kc, ks⟩ := κ
  exact fun ls H locs hl hP hS => lv_aload X.1 X.2.1 hd (lv_at hl j hj) (k ls H locs hl hP hS)
theorem z_istore_n (X : zCx κ G cc Ts own ret rf rl) {lv' : List (Nat × Value)} {n : Fin 4} {i nL : Nat} {x : Int32} (hd : decode cc pc = .ok (.istore_n n, 1)) (hi : (n : Nat) = i) (hm : κ.2.2.2.2.2.2.2.2.2.2.2.2.2.1 = nL) (hn : i < nL) (hl : (i, Value.int x) :: lv.filter (fun q => !(q.1 == i) && !(q.1 + 1 == i && q.2.category == 2)) = lv') (k : zV κ G (pc + 1) lv' (st) M F) : zV κ G pc lv (.int x :: st) M F := by
  obtain ⟨p, l, e, R, s, m, args, below, meth, cdd, D, A, Q, nL, kc, ks⟩ := κ
  exact fun ls H locs h hP hS => lv_istore_n X.1 X.2.1 hd hi h (Nat.lt_of_lt_of_eq hn hm.symm) hl (fun ls' h' => k ls' H locs h' hP hS)
theorem z_istore (X : zCx κ G cc Ts own ret rf rl) {lv' : List (Nat × Value)} {i nL : Nat} {x : Int32} (hd : decode cc pc = .ok (.istore i, 2)) (hm : κ.2.2.2.2.2.2.2.2.2.2.2.2.2.1 = nL) (hn : i < nL) (hl : (i, Value.int x) :: lv.filter (fun q => !(q.1 == i) && !(q.1 + 1 == i && q.2.category == 2)) = lv') (k : zV κ G (pc + 2) lv' (st) M F) : zV κ G pc lv (.int x :: st) M F := by
  obtain ⟨p, l, e, R, s, m, args, below, meth, cdd, D, A, Q, nL, kc, ks⟩ := κ
  exact fun ls H locs h hP hS => lv_istore X.1 X.2.1 hd h (Nat.lt_of_lt_of_eq hn hm.symm) hl (fun ls' h' => k ls' H locs h' hP hS)
theorem z_astore_n (X : zCx κ G cc Ts own ret rf rl) {lv' : List (Nat × Value)} {n : Fin 4} {i nL : Nat} {x : Nat} (hd : decode cc pc = .ok (.astore_n n, 1)) (hi : (n : Nat) = i) (hm : κ.2.2.2.2.2.2.2.2.2.2.2.2.2.1 = nL) (hn : i < nL) (hl : (i, Value.ref x) :: lv.filter (fun q => !(q.1 == i) && !(q.1 + 1 == i && q.2.category == 2)) = lv') (k : zV κ G (pc + 1) lv' (st) M F) : zV κ G pc lv (.ref x :: st) M F := by
  obtain ⟨p, l, e, R, s, m, args, below, meth, cdd, D, A, Q, nL, kc, ks⟩ := κ
  exact fun ls H locs h hP hS => lv_astore_n X.1 X.2.1 hd hi h (Nat.lt_of_lt_of_eq hn hm.symm) hl (fun ls' h' => k ls' H locs h' hP hS)
theorem z_astore (X : zCx κ G cc Ts own ret rf rl) {lv' : List (Nat × Value)} {i nL : Nat} {x : Nat} (hd : decode cc pc = .ok (.astore i, 2)) (hm : κ.2.2.2.2.2.2.2.2.2.2.2.2.2.1 = nL) (hn : i < nL) (hl : (i, Value.ref x) :: lv.filter (fun q => !(q.1 == i) && !(q.1 + 1 == i && q.2.category == 2)) = lv') (k : zV κ G (pc + 2) lv' (st) M F) : zV κ G pc lv (.ref x :: st) M F := by
  obtain ⟨p, l, e, R, s, m, args, below, meth, cdd, D, A, Q, nL, kc, ks⟩ := κ
  exact fun ls H locs h hP hS => lv_astore X.1 X.2.1 hd h (Nat.lt_of_lt_of_eq hn hm.symm) hl (fun ls' h' => k ls' H locs h' hP hS)
theorem z_lstore_n (X : zCx κ G cc Ts own ret rf rl) {lv' : List (Nat × Value)} {n : Fin 4} {i nL : Nat} {x : Int64} (hd : decode cc pc = .ok (.lstore_n n, 1)) (hi : (n : Nat) = i) (hm : κ.2.2.2.2.2.2.2.2.2.2.2.2.2.1 = nL) (hn : i + 1 < nL) (hl : (i, Value.long x) :: lv.filter (fun q => !(q.1 == i) && (!(q.1 == i + 1) && !(q.1 + 1 == i && q.2.category == 2))) = lv') (k : zV κ G (pc + 1) lv' (st) M F) : zV κ G pc lv (.long x :: st) M F := by
  obtain ⟨p, l, e, R, s, m, args, below, meth, cdd, D, A, Q, nL, kc, ks⟩ := κ
  exact fun ls H locs h hP hS => lv_lstore_n X.1 X.2.1 hd hi h (Nat.lt_of_lt_of_eq hn hm.symm) hl (fun ls' h' => k ls' H locs h' hP hS)
theorem z_lstore (X : zCx κ G cc Ts own ret rf rl) {lv' : List (Nat × Value)} {i nL : Nat} {x : Int64} (hd : decode cc pc = .ok (.lstore i, 2)) (hm : κ.2.2.2.2.2.2.2.2.2.2.2.2.2.1 = nL) (hn : i + 1 < nL) (hl : (i, Value.long x) :: lv.filter (fun q => !(q.1 == i) && (!(q.1 == i + 1) && !(q.1 + 1 == i && q.2.category == 2))) = lv') (k : zV κ G (pc + 2) lv' (st) M F) : zV κ G pc lv (.long x :: st) M F := by
  obtain ⟨p, l, e, R, s, m, args, below, meth, cdd, D, A, Q, nL, kc, ks⟩ := κ
  exact fun ls H locs h hP hS => lv_lstore X.1 X.2.1 hd h (Nat.lt_of_lt_of_eq hn hm.symm) hl (fun ls' h' => k ls' H locs h' hP hS)
theorem z_iinc (X : zCx κ G cc Ts own ret rf rl) {lv' : List (Nat × Value)} {i j nL : Nat} {n : Int} {x v : Int32} (hd : decode cc pc = .ok (.iinc i n, 3)) (hj : lv[j]? = some (i, .int x)) (hv : x + Int32.ofInt n = v) (hm : κ.2.2.2.2.2.2.2.2.2.2.2.2.2.1 = nL) (hn : i < nL) (hl : (i, Value.int v) :: lv.filter (fun q => !(q.1 == i) && !(q.1 + 1 == i && q.2.category == 2)) = lv') (k : zV κ G (pc + 3) lv' (st) M F) : zV κ G pc lv (st) M F := by
  obtain ⟨p, l, e, R, s, m, args, below, meth, cdd, D, A, Q, nL, kc, ks⟩ := κ
  exact fun ls H locs h hP hS => lv_iinc X.1 X.2.1 hd h hj hv (Nat.lt_of_lt_of_eq hn hm.symm) hl (fun ls' h' => k ls' H locs h' hP hS)
theorem z_iadd (X : zCx κ G cc Ts own ret rf rl) {x y : Int32} (hd : decode cc pc = .ok (.iadd, 1)) (k : zV κ G (pc + 1) lv (.int (x + y) :: st) M F) : zV κ G pc lv (.int y :: .int x :: st) M F := by
  obtain ⟨p, l, e, R, s, m, args, below, meth, cdd, D, A, Q, nL, kc, ks⟩ := κ
  exact fun ls H locs hl hP hS => lv_iadd X.1 X.2.1 hd (k ls H locs hl hP hS)
theorem z_isub (X : zCx κ G cc Ts own ret rf rl) {x y : Int32} (hd : decode cc pc = .ok (.isub, 1)) (k : zV κ G (pc + 1) lv (.int (x - y) :: st) M F) : zV κ G pc lv (.int y :: .int x :: st) M F := by
  obtain ⟨p, l, e, R, s, m, args, below, meth, cdd, D, A, Q, nL, kc, ks⟩ := κ
  exact fun ls H locs hl hP hS => lv_isub X.1 X.2.1 hd (k ls H locs hl hP hS)
theorem z_imul (X : zCx κ G cc Ts own ret rf rl) {x y : Int32} (hd : decode cc pc = .ok (.imul, 1)) (k : zV κ G (pc + 1) lv (.int (x * y) :: st) M F) : zV κ G pc lv (.int y :: .int x :: st) M F := by
  obtain ⟨p, l, e, R, s, m, args, below, meth, cdd, D, A, Q, nL, kc, ks⟩ := κ
  exact fun ls H locs hl hP hS => lv_imul X.1 X.2.1 hd (k ls H locs hl hP hS)
theorem z_iand (X : zCx κ G cc Ts own ret rf rl) {x y : Int32} (hd : decode cc pc = .ok (.iand, 1)) (k : zV κ G (pc + 1) lv (.int (x &&& y) :: st) M F) : zV κ G pc lv (.int y :: .int x :: st) M F := by
  obtain ⟨p, l, e, R, s, m, args, below, meth, cdd, D, A, Q, nL, kc, ks⟩ := κ
  exact fun ls H locs hl hP hS => lv_iand X.1 X.2.1 hd (k ls H locs hl hP hS)
theorem z_ior (X : zCx κ G cc Ts own ret rf rl) {x y : Int32} (hd : decode cc pc = .ok (.ior, 1)) (k : zV κ G (pc + 1) lv (.int (x ||| y) :: st) M F) : zV κ G pc lv (.int y :: .int x :: st) M F := by
  obtain ⟨p, l, e, R, s, m, args, below, meth, cdd, D, A, Q, nL, kc, ks⟩ := κ
  exact fun ls H locs hl hP hS => lv_ior X.1 X.2.1 hd (k ls H locs hl hP hS)
theorem z_ixor (X : zCx κ G cc Ts own ret rf rl) {x y : Int32} (hd : decode cc pc = .ok (.ixor, 1)) (k : zV κ G (pc + 1) lv (.int (x ^^^ y) :: st) M F) : zV κ G pc lv (.int y :: .int x :: st) M F := by
  obtain ⟨p, l, e, R, s, m, args, below, meth, cdd, D, A, Q, nL, kc, ks⟩ := κ
  exact fun ls H locs hl hP hS => lv_ixor X.1 X.2.1 hd (k ls H locs hl hP hS)
theorem z_ishl (X : zCx κ G cc Ts own ret rf rl) {x y : Int32} (hd : decode cc pc = .ok (.ishl, 1)) (k : zV κ G (pc + 1) lv (.int (x <<< (y &&& 31)) :: st) M F) : zV κ G pc lv (.int y :: .int x :: st) M F := by
  obtain ⟨p, l, e, R, s, m, args, below, meth, cdd, D, A, Q, nL, kc, ks⟩ := κ
  exact fun ls H locs hl hP hS => lv_ishl X.1 X.2.1 hd (k ls H locs hl hP hS)
theorem z_iushr (X : zCx κ G cc Ts own ret rf rl) {x y : Int32} (hd : decode cc pc = .ok (.iushr, 1)) (k : zV κ G (pc + 1) lv (.int ((x.toUInt32 >>> (y.toUInt32 &&& Int32.toUInt32 31)).toInt32) :: st) M F) : zV κ G pc lv (.int y :: .int x :: st) M F := by
  obtain ⟨p, l, e, R, s, m, args, below, meth, cdd, D, A, Q, nL, kc, ks⟩ := κ
  exact fun ls H locs hl hP hS => lv_iushr X.1 X.2.1 hd rfl (k ls H locs hl hP hS)
theorem z_idiv (X : zCx κ G cc Ts own ret rf rl) {x y : Int32} (hd : decode cc pc = .ok (.idiv, 1)) (hne : ¬ y = 0) (k : zV κ G (pc + 1) lv (.int (x / y) :: st) M F) : zV κ G pc lv (.int y :: .int x :: st) M F := by
  obtain ⟨p, l, e, R, s, m, args, below, meth, cdd, D, A, Q, nL, kc, ks⟩ := κ
  exact fun ls H locs hl hP hS => lv_idiv X.1 X.2.1 hd hne (k ls H locs hl hP hS)
theorem z_irem (X : zCx κ G cc Ts own ret rf rl) {x y : Int32} (hd : decode cc pc = .ok (.irem, 1)) (hne : ¬ y = 0) (k : zV κ G (pc + 1) lv (.int (x - x / y * y) :: st) M F) : zV κ G pc lv (.int y :: .int x :: st) M F := by
  obtain ⟨p, l, e, R, s, m, args, below, meth, cdd, D, A, Q, nL, kc, ks⟩ := κ
  exact fun ls H locs hl hP hS => lv_irem X.1 X.2.1 hd hne (k ls H locs hl hP hS)
theorem z_ineg (X : zCx κ G cc Ts own ret rf rl) {x : Int32} (hd : decode cc pc = .ok (.ineg, 1)) (k : zV κ G (pc + 1) lv (.int (-x) :: st) M F) : zV κ G pc lv (.int x :: st) M F := by
  obtain ⟨p, l, e, R, s, m, args, below, meth, cdd, D, A, Q, nL, kc, ks⟩ := κ
  exact fun ls H locs hl hP hS => lv_ineg X.1 X.2.1 hd (k ls H locs hl hP hS)
theorem z_ladd (X : zCx κ G cc Ts own ret rf rl) {x y : Int64} (hd : decode cc pc = .ok (.ladd, 1)) (k : zV κ G (pc + 1) lv (.long (x + y) :: st) M F) : zV κ G pc lv (.long y :: .long x :: st) M F := by
  obtain ⟨p, l, e, R, s, m, args, below, meth, cdd, D, A, Q, nL, kc, ks⟩ := κ
  exact fun ls H locs hl hP hS => lv_ladd X.1 X.2.1 hd (k ls H locs hl hP hS)
theorem z_lsub (X : zCx κ G cc Ts own ret rf rl) {x y : Int64} (hd : decode cc pc = .ok (.lsub, 1)) (k : zV κ G (pc + 1) lv (.long (x - y) :: st) M F) : zV κ G pc lv (.long y :: .long x :: st) M F := by
  obtain ⟨p, l, e, R, s, m, args, below, meth, cdd, D, A, Q, nL, kc, ks⟩ := κ
  exact fun ls H locs hl hP hS => lv_lsub X.1 X.2.1 hd (k ls H locs hl hP hS)
theorem z_lmul (X : zCx κ G cc Ts own ret rf rl) {x y : Int64} (hd : decode cc pc = .ok (.lmul, 1)) (k : zV κ G (pc + 1) lv (.long (x * y) :: st) M F) : zV κ G pc lv (.long y :: .long x :: st) M F := by
  obtain ⟨p, l, e, R, s, m, args, below, meth, cdd, D, A, Q, nL, kc, ks⟩ := κ
  exact fun ls H locs hl hP hS => lv_lmul X.1 X.2.1 hd (k ls H locs hl hP hS)
theorem z_land (X : zCx κ G cc Ts own ret rf rl) {x y : Int64} (hd : decode cc pc = .ok (.land, 1)) (k : zV κ G (pc + 1) lv (.long (x &&& y) :: st) M F) : zV κ G pc lv (.long y :: .long x :: st) M F := by
  obtain ⟨p, l, e, R, s, m, args, below, meth, cdd, D, A, Q, nL, kc, ks⟩ := κ
  exact fun ls H locs hl hP hS => lv_land X.1 X.2.1 hd (k ls H locs hl hP hS)
theorem z_ldiv (X : zCx κ G cc Ts own ret rf rl) {x y : Int64} (hd : decode cc pc = .ok (.ldiv, 1)) (hne : ¬ y = 0) (k : zV κ G (pc + 1) lv (.long (x / y) :: st) M F) : zV κ G pc lv (.long y :: .long x :: st) M F := by
  obtain ⟨p, l, e, R, s, m, args, below, meth, cdd, D, A, Q, nL, kc, ks⟩ := κ
  exact fun ls H locs hl hP hS => lv_ldiv X.1 X.2.1 hd hne (k ls H locs hl hP hS)
theorem z_lrem (X : zCx κ G cc Ts own ret rf rl) {x y : Int64} (hd : decode cc pc = .ok (.lrem, 1)) (hne : ¬ y = 0) (k : zV κ G (pc + 1) lv (.long (x - x / y * y) :: st) M F) : zV κ G pc lv (.long y :: .long x :: st) M F := by
  obtain ⟨p, l, e, R, s, m, args, below, meth, cdd, D, A, Q, nL, kc, ks⟩ := κ
  exact fun ls H locs hl hP hS => lv_lrem X.1 X.2.1 hd hne (k ls H locs hl hP hS)
theorem z_lneg (X : zCx κ G cc Ts own ret rf rl) {x : Int64} (hd : decode cc pc = .ok (.lneg, 1)) (k : zV κ G (pc + 1) lv (.long (-x) :: st) M F) : zV κ G pc lv (.long x :: st) M F := by
  obtain ⟨p, l, e, R, s, m, args, below, meth, cdd, D, A, Q, nL, kc, ks⟩ := κ
  exact fun ls H locs hl hP hS => lv_lneg X.1 X.2.1 hd (k ls H locs hl hP hS)
theorem z_lshl (X : zCx κ G cc Ts own ret rf rl) {x : Int64} {y : Int32} (hd : decode cc pc = .ok (.lshl, 1)) (k : zV κ G (pc + 1) lv (.long (x <<< (y.toInt64 &&& 63)) :: st) M F) : zV κ G pc lv (.int y :: .long x :: st) M F := by
  obtain ⟨p, l, e, R, s, m, args, below, meth, cdd, D, A, Q, nL, kc, ks⟩ := κ
  exact fun ls H locs hl hP hS => lv_lshl X.1 X.2.1 hd rfl (k ls H locs hl hP hS)
theorem z_lushr (X : zCx κ G cc Ts own ret rf rl) {x : Int64} {y : Int32} (hd : decode cc pc = .ok (.lushr, 1)) (k : zV κ G (pc + 1) lv (.long ((x.toUInt64 >>> (y.toInt64.toUInt64 &&& Int64.toUInt64 63)).toInt64) :: st) M F) : zV κ G pc lv (.int y :: .long x :: st) M F := by
  obtain ⟨p, l, e, R, s, m, args, below, meth, cdd, D, A, Q, nL, kc, ks⟩ := κ
  exact fun ls H locs hl hP hS => lv_lushr X.1 X.2.1 hd rfl (k ls H locs hl hP hS)
theorem z_lcmp (X : zCx κ G cc Ts own ret rf rl) {x y : Int64} (hd : decode cc pc = .ok (.lcmp, 1)) (k : zV κ G (pc + 1) lv (.int (lg_cmp x y) :: st) M F) : zV κ G pc lv (.long y :: .long x :: st) M F := by
  obtain ⟨p, l, e, R, s, m, args, below, meth, cdd, D, A, Q, nL, kc, ks⟩ := κ
  exact fun ls H locs hl hP hS => W.lcmp X.1 X.2.1 hd (k ls H locs hl hP hS)
theorem z_i2l (X : zCx κ G cc Ts own ret rf rl) {x : Int32} (hd : decode cc pc = .ok (.i2l, 1)) (k : zV κ G (pc + 1) lv (.long (x.toInt64) :: st) M F) : zV κ G pc lv (.int x :: st) M F := by
  obtain ⟨p, l, e, R, s, m, args, below, meth, cdd, D, A, Q, nL, kc, ks⟩ := κ
  exact fun ls H locs hl hP hS => lv_i2l X.1 X.2.1 hd rfl (k ls H locs hl hP hS)
theorem z_l2i (X : zCx κ G cc Ts own ret rf rl) {x : Int64} (hd : decode cc pc = .ok (.l2i, 1)) (k : zV κ G (pc + 1) lv (.int (x.toInt32) :: st) M F) : zV κ G pc lv (.long x :: st) M F := by
  obtain ⟨p, l, e, R, s, m, args, below, meth, cdd, D, A, Q, nL, kc, ks⟩ := κ
  exact fun ls H locs hl hP hS => lv_l2i X.1 X.2.1 hd rfl (k ls H locs hl hP hS)
theorem z_i2b (X : zCx κ G cc Ts own ret rf rl) {x : Int32} (hd : decode cc pc = .ok (.i2b, 1)) (k : zV κ G (pc + 1) lv (.int (x.toInt8.toInt32) :: st) M F) : zV κ G pc lv (.int x :: st) M F := by
  obtain ⟨p, l, e, R, s, m, args, below, meth, cdd, D, A, Q, nL, kc, ks⟩ := κ
  exact fun ls H locs hl hP hS => lv_i2b X.1 X.2.1 hd rfl (k ls H locs hl hP hS)
theorem z_i2s (X : zCx κ G cc Ts own ret rf rl) {x : Int32} (hd : decode cc pc = .ok (.i2s, 1)) (k : zV κ G (pc + 1) lv (.int (x.toInt16.toInt32) :: st) M F) : zV κ G pc lv (.int x :: st) M F := by
  obtain ⟨p, l, e, R, s, m, args, below, meth, cdd, D, A, Q, nL, kc, ks⟩ := κ
  exact fun ls H locs hl hP hS => lv_i2s X.1 X.2.1 hd rfl (k ls H locs hl hP hS)
theorem z_i2c (X : zCx κ G cc Ts own ret rf rl) {x : Int32} (hd : decode cc pc = .ok (.i2c, 1)) (k : zV κ G (pc + 1) lv (.int ((x.toUInt32 % 65536).toInt32) :: st) M F) : zV κ G pc lv (.int x :: st) M F := by
  obtain ⟨p, l, e, R, s, m, args, below, meth, cdd, D, A, Q, nL, kc, ks⟩ := κ
  exact fun ls H locs hl hP hS => lv_i2c X.1 X.2.1 hd rfl (k ls H locs hl hP hS)
theorem z_dup (X : zCx κ G cc Ts own ret rf rl) {a : Value} (hd : decode cc pc = .ok (.dup, 1)) (ha : a.category = 1) (k : zV κ G (pc + 1) lv (a :: a :: st) M F) : zV κ G pc lv (a :: st) M F := by
  obtain ⟨p, l, e, R, s, m, args, below, meth, cdd, D, A, Q, nL, kc, ks⟩ := κ
  exact fun ls H locs hl hP hS => lv_dup X.1 X.2.1 hd ha (k ls H locs hl hP hS)
theorem z_dup2 (X : zCx κ G cc Ts own ret rf rl) {a b : Value} (hd : decode cc pc = .ok (.dup2, 1)) (ha : a.category = 1) (hb : b.category = 1) (k : zV κ G (pc + 1) lv (a :: b :: a :: b :: st) M F) : zV κ G pc lv (a :: b :: st) M F := by
  obtain ⟨p, l, e, R, s, m, args, below, meth, cdd, D, A, Q, nL, kc, ks⟩ := κ
  exact fun ls H locs hl hP hS => lv_dup2_11 X.1 X.2.1 hd ha hb (k ls H locs hl hP hS)
theorem z_if_eq (X : zCx κ G cc Ts own ret rf rl) {x : Int32} {off : Int} {tgt : Nat} (hd : decode cc pc = .ok (.ifCond .eq off, 3)) (ht : (pc : Int) + off = (tgt : Int)) (kt : x = 0 → zV κ G tgt lv (st) M F) (kf : ¬ (x = 0) → zV κ G (pc + 3) lv (st) M F) : zV κ G pc lv (.int x :: st) M F := by
  obtain ⟨p, l, e, R, s, m, args, below, meth, cdd, D, A, Q, nL, kc, ks⟩ := κ
  exact fun ls H locs hl hP hS => lv_if_eq X.1 X.2.1 hd ht (fun h => kt h ls H locs hl hP hS) (fun h => kf h ls H locs hl hP hS)
theorem z_icmp_eq (X : zCx κ G cc Ts own ret rf rl) {x y : Int32} {off : Int} {tgt : Nat} (hd : decode cc pc = .ok (.if_icmp .eq off, 3)) (ht : (pc : Int) + off = (tgt : Int)) (kt : x = y → zV κ G tgt lv (st) M F) (kf : ¬ (x = y) → zV κ G (pc + 3) lv (st) M F) : zV κ G pc lv (.int y :: .int x :: st) M F := by
  obtain ⟨p, l, e, R, s, m, args, below, meth, cdd, D, A, Q, nL, kc, ks⟩ := κ
  exact fun ls H locs hl hP hS => lv_icmp_eq X.1 X.2.1 hd ht (fun h => kt h ls H locs hl hP hS) (fun h => kf h ls H locs hl hP hS)
theorem z_if_ne (X : zCx κ G cc Ts own ret rf rl) {x : Int32} {off : Int} {tgt : Nat} (hd : decode cc pc = .ok (.ifCond .ne off, 3)) (ht : (pc : Int) + off = (tgt : Int)) (kt : ¬ x = 0 → zV κ G tgt lv (st) M F) (kf : x = 0 → zV κ G (pc + 3) lv (st) M F) : zV κ G pc lv (.int x :: st) M F := by
  obtain ⟨p, l, e, R, s, m, args, below, meth, cdd, D, A, Q, nL, kc, ks⟩ := κ
  exact fun ls H locs hl hP hS => lv_if_ne X.1 X.2.1 hd ht (fun h => kt h ls H locs hl hP hS) (fun h => kf h ls H locs hl hP hS)
theorem z_icmp_ne (X : zCx κ G cc Ts own ret rf rl) {x y : Int32} {off : Int} {tgt : Nat} (hd : decode cc pc = .ok (.if_icmp .ne off, 3)) (ht : (pc : Int) + off = (tgt : Int)) (kt : ¬ x = y → zV κ G tgt lv (st) M F) (kf : x = y → zV κ G (pc + 3) lv (st) M F) : zV κ G pc lv (.int y :: .int x :: st) M F := by
  obtain ⟨p, l, e, R, s, m, args, below, meth, cdd, D, A, Q, nL, kc, ks⟩ := κ
  exact fun ls H locs hl hP hS => lv_icmp_ne X.1 X.2.1 hd ht (fun h => kt h ls H locs hl hP hS) (fun h => kf h ls H locs hl hP hS)
theorem z_if_lt (X : zCx κ G cc Ts own ret rf rl) {x : Int32} {off : Int} {tgt : Nat} (hd : decode cc pc = .ok (.ifCond .lt off, 3)) (ht : (pc : Int) + off = (tgt : Int)) (kt : x < 0 → zV κ G tgt lv (st) M F) (kf : ¬ (x < 0) → zV κ G (pc + 3) lv (st) M F) : zV κ G pc lv (.int x :: st) M F := by
  obtain ⟨p, l, e, R, s, m, args, below, meth, cdd, D, A, Q, nL, kc, ks⟩ := κ
  exact fun ls H locs hl hP hS => lv_if_lt X.1 X.2.1 hd ht (fun h => kt h ls H locs hl hP hS) (fun h => kf h ls H locs hl hP hS)
theorem z_icmp_lt (X : zCx κ G cc Ts own ret rf rl) {x y : Int32} {off : Int} {tgt : Nat} (hd : decode cc pc = .ok (.if_icmp .lt off, 3)) (ht : (pc : Int) + off = (tgt : Int)) (kt : x < y → zV κ G tgt lv (st) M F) (kf : ¬ (x < y) → zV κ G (pc + 3) lv (st) M F) : zV κ G pc lv (.int y :: .int x :: st) M F := by
  obtain ⟨p, l, e, R, s, m, args, below, meth, cdd, D, A, Q, nL, kc, ks⟩ := κ
  exact fun ls H locs hl hP hS => lv_icmp_lt X.1 X.2.1 hd ht (fun h => kt h ls H locs hl hP hS) (fun h => kf h ls H locs hl hP hS)
theorem z_if_ge (X : zCx κ G cc Ts own ret rf rl) {x : Int32} {off : Int} {tgt : Nat} (hd : decode cc pc = .ok (.ifCond .ge off, 3)) (ht : (pc : Int) + off = (tgt : Int)) (kt : 0 ≤ x → zV κ G tgt lv (st) M F) (kf : ¬ (0 ≤ x) → zV κ G (pc + 3) lv (st) M F) : zV κ G pc lv (.int x :: st) M F := by
  obtain ⟨p, l, e, R, s, m, args, below, meth, cdd, D, A, Q, nL, kc, ks⟩ := κ
  exact fun ls H locs hl hP hS => lv_if_ge X.1 X.2.1 hd ht (fun h => kt h ls H locs hl hP hS) (fun h => kf h ls H locs hl hP hS)
theorem z_icmp_ge (X : zCx κ G cc Ts own ret rf rl) {x y : Int32} {off : Int} {tgt : Nat} (hd : decode cc pc = .ok (.if_icmp .ge off, 3)) (ht : (pc : Int) + off = (tgt : Int)) (kt : y ≤ x → zV κ G tgt lv (st) M F) (kf : ¬ (y ≤ x) → zV κ G (pc + 3) lv (st) M F) : zV κ G pc lv (.int y :: .int x :: st) M F := by
  obtain ⟨p, l, e, R, s, m, args, below, meth, cdd, D, A, Q, nL, kc, ks⟩ := κ
  exact fun ls H locs hl hP hS => lv_icmp_ge X.1 X.2.1 hd ht (fun h => kt h ls H locs hl hP hS) (fun h => kf h ls H locs hl hP hS)
theorem z_if_gt (X : zCx κ G cc Ts own ret rf rl) {x : Int32} {off : Int} {tgt : Nat} (hd : decode cc pc = .ok (.ifCond .gt off, 3)) (ht : (pc : Int) + off = (tgt : Int)) (kt : 0 < x → zV κ G tgt lv (st) M F) (kf : ¬ (0 < x) → zV κ G (pc + 3) lv (st) M F) : zV κ G pc lv (.int x :: st) M F := by
  obtain ⟨p, l, e, R, s, m, args, below, meth, cdd, D, A, Q, nL, kc, ks⟩ := κ
  exact fun ls H locs hl hP hS => lv_if_gt X.1 X.2.1 hd ht (fun h => kt h ls H locs hl hP hS) (fun h => kf h ls H locs hl hP hS)
theorem z_icmp_gt (X : zCx κ G cc Ts own ret rf rl) {x y : Int32} {off : Int} {tgt : Nat} (hd : decode cc pc = .ok (.if_icmp .gt off, 3)) (ht : (pc : Int) + off = (tgt : Int)) (kt : y < x → zV κ G tgt lv (st) M F) (kf : ¬ (y < x) → zV κ G (pc + 3) lv (st) M F) : zV κ G pc lv (.int y :: .int x :: st) M F := by
  obtain ⟨p, l, e, R, s, m, args, below, meth, cdd, D, A, Q, nL, kc, ks⟩ := κ
  exact fun ls H locs hl hP hS => lv_icmp_gt X.1 X.2.1 hd ht (fun h => kt h ls H locs hl hP hS) (fun h => kf h ls H locs hl hP hS)
theorem z_if_le (X : zCx κ G cc Ts own ret rf rl) {x : Int32} {off : Int} {tgt : Nat} (hd : decode cc pc = .ok (.ifCond .le off, 3)) (ht : (pc : Int) + off = (tgt : Int)) (kt : x ≤ 0 → zV κ G tgt lv (st) M F) (kf : ¬ (x ≤ 0) → zV κ G (pc + 3) lv (st) M F) : zV κ G pc lv (.int x :: st) M F := by
  obtain ⟨p, l, e, R, s, m, args, below, meth, cdd, D, A, Q, nL, kc, ks⟩ := κ
  exact fun ls H locs hl hP hS => lv_if_le X.1 X.2.1 hd ht (fun h => kt h ls H locs hl hP hS) (fun h => kf h ls H locs hl hP hS)
theorem z_icmp_le (X : zCx κ G cc Ts own ret rf rl) {x y : Int32} {off : Int} {tgt : Nat} (hd : decode cc pc = .ok (.if_icmp .le off, 3)) (ht : (pc : Int) + off = (tgt : Int)) (kt : x ≤ y → zV κ G tgt lv (st) M F) (kf : ¬ (x ≤ y) → zV κ G (pc + 3) lv (st) M F) : zV κ G pc lv (.int y :: .int x :: st) M F := by
  obtain ⟨p, l, e, R, s, m, args, below, meth, cdd, D, A, Q, nL, kc, ks⟩ := κ
  exact fun ls H locs hl hP hS => lv_icmp_le X.1 X.2.1 hd ht (fun h => kt h ls H locs hl hP hS) (fun h => kf h ls H locs hl hP hS)
theorem z_goto (X : zCx κ G cc Ts own ret rf rl) {off : Int} {tgt : Nat} (hd : decode cc pc = .ok (.goto off, 3)) (ht : (pc : Int) + off = (tgt : Int)) (k : zV κ G tgt lv (st) M F) : zV κ G pc lv (st) M F := by
  obtain ⟨p, l, e, R, s, m, args, below, meth, cdd, D, A, Q, nL, kc, ks⟩ := κ
  exact fun ls H locs hl hP hS => lv_goto X.1 X.2.1 hd ht (k ls H locs hl hP hS)
theorem z_tableOut (X : zCx κ G cc Ts own ret rf rl) {dflt lo hi : Int} {offs : Array Int} {len : Nat} {x : Int32} {tgt : Nat} (hd : decode cc pc = .ok (.tableswitch dflt lo hi offs, len)) (h : x.toInt < lo ∨ hi < x.toInt) (ht : (pc : Int) + dflt = (tgt : Int)) (k : zV κ G tgt lv (st) M F) : zV κ G pc lv (.int x :: st) M F := by
  obtain ⟨p, l, e, R, s, m, args, below, meth, cdd, D, A, Q, nL, kc, ks⟩ := κ
  exact fun ls H locs hl hP hS => lv_tableOut X.1 X.2.1 hd h ht (k ls H locs hl hP hS)
theorem z_tableIn (X : zCx κ G cc Ts own ret rf rl) {dflt lo hi : Int} {offs : Array Int} {len : Nat} {x : Int32} {off : Int} {tgt : Nat} (hd : decode cc pc = .ok (.tableswitch dflt lo hi offs, len)) (h1 : ¬ x.toInt < lo) (h2 : ¬ hi < x.toInt) (ho : offs[(x.toInt - lo).toNat]? = some off) (ht : (pc : Int) + off = (tgt : Int)) (k : zV κ G tgt lv (st) M F) : zV κ G pc lv (.int x :: st) M F := by
  obtain ⟨p, l, e, R, s, m, args, below, meth, cdd, D, A, Q, nL, kc, ks⟩ := κ
  exact fun ls H locs hl hP hS => lv_tableIn X.1 X.2.1 hd h1 h2 ho ht (k ls H locs hl hP hS)
theorem z_lookup (X : zCx κ G cc Ts own ret rf rl) {dflt : Int} {ps : Array (Int × Int)} {len : Nat} {x : Int32} {off : Int} {tgt : Nat} (hd : decode cc pc = .ok (.lookupswitch dflt ps, len)) (hp : (ps.toList.zip (ps.toList.drop 1)).all (fun (a, next) => a.1 < next.1) = true) (ho : Op.lookupswitch.offset ps.toList dflt x.toInt = off) (ht : (pc : Int) + off = (tgt : Int)) (k : zV κ G tgt lv (st) M F) : zV κ G pc lv (.int x :: st) M F := by
  obtain ⟨p, l, e, R, s, m, args, below, meth, cdd, D, A, Q, nL, kc, ks⟩ := κ
  exact fun ls H locs hl hP hS => lv_lookup X.1 X.2.1 hd hp ho ht (k ls H locs hl hP hS)
theorem z_sub {lv' : List (Nat × Value)} (ks : List Nat) (h : lv_pick lv ks = lv') (k : zV κ G pc lv' (st) M F) : zV κ G pc lv (st) M F := by
  obtain ⟨p, l, e, R, s, m, args, below, meth, cdd, D, A, Q, nL, kc, ks0⟩ := κ
  exact fun ls H locs hl hP hS => k ls H locs (lv_sub hl ks h) hP hS
theorem z_getf (X : zCx κ G cc Ts own ret rf rl) {c ci : Nat} {fds : List zFd} {C : String} {T : u_T} {N index : Nat} (hc : c < 77) (hlay : zlay c = .inl (ci, fds)) (hcl : vwCl[ci]? = some (C, T, N)) (hin : ∀ w ∈ u_ws C T N, w ∈ Ts) (j : Nat) (hj : j < N) {f : zFd} (hf : fds[j]? = some f) (hlink : Cond.fieldLink own index (T j).1 (T j).2.1 (T j).2.2.1 ∈ Ts) {v : Value} (hv : zfv G M F c j f = v) (hd : decode cc pc = .ok (.getfield index, 3)) (k : zV κ G (pc + 3) lv (v :: st) M F) : zV κ G pc lv (.ref (G.1 c) :: st) M F := by
  obtain ⟨p, l, e, R, s, m, args, below, meth, cdd, D, A, Q, nL, kc, ks⟩ := κ
  refine fun ls H locs hl hP hS => va_get (fs := zfvs G M F c fds) X.1 X.2.1 X.2.2.2.2.1 hin X.2.2.2.1 X.2.2.2.2.2.1.1 hP c ?_ hcl j hj (X.2.2.2.2.1 _ hlink) (fun _ h9 => h9) ?_ hd (k ls H locs hl hP hS)
  · rw [zwld_get G M F hc, hlay]; rfl
  · rw [zfvs_get, hf, ← hv]; rfl
theorem z_putf (X : zCx κ G cc Ts own ret rf rl) {c ci : Nat} {fds : List zFd} {C : String} {T : u_T} {N index : Nat} (hc : c < 77) (hlay : zlay c = .inl (ci, fds)) (hcl : vwCl[ci]? = some (C, T, N)) (hin : ∀ w ∈ u_ws C T N, w ∈ Ts) (ty0 : Nat → FieldType) (hty : ∀ k, k < N → parseFieldDescriptor (T k).2.2.1 = some (ty0 k)) (hnm : ∀ a, a < N → ∀ b, b < N → a ≠ b → (T a).2.1 ≠ (T b).2.1) (j : Nat) (hj : j < N) {z : Nat} (hf : fds[j]? = some (1, z)) (hlink : Cond.fieldLink own index (T j).1 (T j).2.1 (T j).2.2.1 ∈ Ts) (hfin : (T j).2.2.2 = false) (hpf : parseFieldDescriptor (T j).2.2.1 = some .int) {x : Int32} (hd : decode cc pc = .ok (.putfield index, 3)) (k : zV κ G (pc + 3) lv (st) (zwr M c j x) F) : zV κ G pc lv (.int x :: .ref (G.1 c) :: st) M F := by
  obtain ⟨p, l, e, R, s, m, args, below, meth, cdd, D, A, Q, nL, kc, ks⟩ := κ
  refine fun ls H locs hl hP hS => va_put (fs := zfvs G M F c fds) (ty := .int) X.1 X.2.1 X.2.2.2.2.1 hin ty0 hty hnm X.2.2.2.1 X.2.2.2.2.2.1.1 hP (X.2.2.2.2.2.2.1.D M F) hS c ?_ hcl j hj (X.2.2.2.2.1 _ hlink) (fun _ h9 => h9) hfin hpf rfl rfl ?_ hd (fun H1 locs1 hP1 hD1 hS1 => k ls H1 locs1 hl ?_ hS1)
  · rw [zwld_get G M F hc, hlay]; rfl
  · rw [zfvs_len]; exact (List.getElem?_eq_some_iff.mp hf).1
  · rw [zwld_set (M' := zwr M c j x) (F' := F) hc (by rw [hlay]; show Sum.inr (ci, _) = _; rw [zfvs_put hf]) (fun c' _ hne => zent_congr (zwr_ne M j x hne) _)] at hP1
    exact hP1
theorem z_putL (X : zCx κ G cc Ts own ret rf rl) {N index : Nat} {T : u_T} {C : String} {fds : List zFd} (hlay : zlay 60 = .inl (6, fds)) (hcl : vwCl[6]? = some (C, T, N)) (hin : ∀ w ∈ u_ws C T N, w ∈ Ts) (ty0 : Nat → FieldType) (hty : ∀ k, k < N → parseFieldDescriptor (T k).2.2.1 = some (ty0 k)) (hnm : ∀ a, a < N → ∀ b, b < N → a ≠ b → (T a).2.1 ≠ (T b).2.1) (j : Nat) (hj : j < N) {z : Nat} (hf : fds[j]? = some (2, z)) (h1 : ∀ i f, fds[i]? = some f → i ≠ j → f.1 = 0 ∨ f.1 = 1) (hoth : ∀ c', c' < 77 → c' ≠ 60 → ∀ G M F F', zent G M F' c' (zlay c') = zent G M F c' (zlay c')) (hlink : Cond.fieldLink own index (T j).1 (T j).2.1 (T j).2.2.1 ∈ Ts) (hfin : (T j).2.2.2 = false) (hpf : parseFieldDescriptor (T j).2.2.1 = some .long) {x : Int64} (hd : decode cc pc = .ok (.putfield index, 3)) (k : zV κ G (pc + 3) lv (st) M x) : zV κ G pc lv (.long x :: .ref (G.1 60) :: st) M F := by
  obtain ⟨p, l, e, R, s, m, args, below, meth, cdd, D, A, Q, nL, kc, ks⟩ := κ
  refine fun ls H locs hl hP hS => va_put (fs := zfvs G M F 60 fds) (ty := .long) X.1 X.2.1 X.2.2.2.2.1 hin ty0 hty hnm X.2.2.2.1 X.2.2.2.2.2.1.1 hP (X.2.2.2.2.2.2.1.D M F) hS 60 ?_ hcl j hj (X.2.2.2.2.1 _ hlink) (fun _ h9 => h9) hfin hpf rfl rfl ?_ hd (fun H1 locs1 hP1 hD1 hS1 => k ls H1 locs1 hl ?_ hS1)
  · rw [zwld_get G M F (by decide), hlay]; rfl
  · rw [zfvs_len]; exact (List.getElem?_eq_some_iff.mp hf).1
  · rw [zwld_set (M' := M) (F' := x) (by decide) (by rw [hlay]; show Sum.inr (6, _) = _; rw [zfvs_putL hf h1]) (fun c' hc' hne => hoth c' hc' hne G M F x)] at hP1
    exact hP1
theorem z_iald (X : zCx κ G cc Ts own ret rf rl) {c n : Nat} {i : Int32} (hc : c < 77) (hlay : zlay c = .inr (.inl (0, n))) (hin : vp_in i n) (hd : decode cc pc = .ok (.iaload, 1)) (k : zV κ G (pc + 1) lv (.int (M c i.toNatClampNeg) :: st) M F) : zV κ G pc lv (.int i :: .ref (G.1 c) :: st) M F := by
  obtain ⟨p, l, e, R, s, m, args, below, meth, cdd, D, A, Q, nL, kc, ks⟩ := κ
  refine fun ls H locs hl hP hS => va_iald (f := M c) X.1 X.2.1 X.2.2.2.2.2.1.1 hP c 0 ?_ rfl hin hd (k ls H locs hl hP hS)
  rw [zwld_get G M F hc, hlay]; rfl
theorem z_zald (X : zCx κ G cc Ts own ret rf rl) {c n : Nat} {i : Int32} (hc : c < 77) (hlay : zlay c = .inr (.inl (1, n))) (hin : vp_in i n) (hd : decode cc pc = .ok (.baload, 1)) (k : zV κ G (pc + 1) lv (.int (M c i.toNatClampNeg) :: st) M F) : zV κ G pc lv (.int i :: .ref (G.1 c) :: st) M F := by
  obtain ⟨p, l, e, R, s, m, args, below, meth, cdd, D, A, Q, nL, kc, ks⟩ := κ
  refine fun ls H locs hl hP hS => va_zald (f := M c) X.1 X.2.1 X.2.2.2.2.2.1.1 hP c 1 ?_ rfl hin hd (k ls H locs hl hP hS)
  rw [zwld_get G M F hc, hlay]; rfl
theorem z_iast (X : zCx κ G cc Ts own ret rf rl) {c n : Nat} {i x : Int32} (hc : c < 77) (hlay : zlay c = .inr (.inl (0, n))) (hin : vp_in i n) (hd : decode cc pc = .ok (.iastore, 1)) (k : zV κ G (pc + 1) lv (st) (zwr M c i.toNatClampNeg x) F) : zV κ G pc lv (.int x :: .int i :: .ref (G.1 c) :: st) M F := by
  obtain ⟨p, l, e, R, s, m, args, below, meth, cdd, D, A, Q, nL, kc, ks⟩ := κ
  refine fun ls H locs hl hP hS => va_iast (f := M c) X.1 X.2.1 X.2.2.2.2.2.1.1 hP (X.2.2.2.2.2.2.1.D M F) hS c 0 ?_ rfl hin hd (fun H1 locs1 hP1 hD1 hS1 => k ls H1 locs1 hl ?_ hS1)
  · rw [zwld_get G M F hc, hlay]; rfl
  · rw [zwld_set (M' := zwr M c i.toNatClampNeg x) (F' := F) hc (by rw [hlay]; show Sum.inl (G.2 0, n, Sum.inl _) = _; rw [zwr_same]) (fun c' _ hne => zent_congr (zwr_ne M _ x hne) _)] at hP1
    exact hP1
theorem z_zast (X : zCx κ G cc Ts own ret rf rl) {c n : Nat} {i x : Int32} (hc : c < 77) (hlay : zlay c = .inr (.inl (1, n))) (hin : vp_in i n) (hd : decode cc pc = .ok (.bastore, 1)) (k : zV κ G (pc + 1) lv (st) (zwr M c i.toNatClampNeg (vp_nar .boolean x)) F) : zV κ G pc lv (.int x :: .int i :: .ref (G.1 c) :: st) M F := by
  obtain ⟨p, l, e, R, s, m, args, below, meth, cdd, D, A, Q, nL, kc, ks⟩ := κ
  refine fun ls H locs hl hP hS => va_zast (f := M c) X.1 X.2.1 X.2.2.2.2.2.1.1 hP (X.2.2.2.2.2.2.1.D M F) hS c 1 ?_ rfl hin hd (fun H1 locs1 hP1 hD1 hS1 => k ls H1 locs1 hl ?_ hS1)
  · rw [zwld_get G M F hc, hlay]; rfl
  · rw [zwld_set (M' := zwr M c i.toNatClampNeg (vp_nar .boolean x)) (F' := F) hc (by rw [hlay]; show Sum.inl (G.2 1, n, Sum.inl _) = _; rw [zwr_same]) (fun c' _ hne => zent_congr (zwr_ne M _ _ hne) _)] at hP1
    exact hP1
theorem z_alen (X : zCx κ G cc Ts own ret rf rl) {c t n : Nat} {v : Int32} (hc : c < 77) (hlay : zlay c = .inr (.inl (t, n))) (ht : ∃ ty, (ztys G)[t]? = some (G.2 t, ty)) (hv : Int32.ofNat n = v) (hd : decode cc pc = .ok (.arraylength, 1)) (k : zV κ G (pc + 1) lv (.int v :: st) M F) : zV κ G pc lv (.ref (G.1 c) :: st) M F := by
  obtain ⟨p, l, e, R, s, m, args, below, meth, cdd, D, A, Q, nL, kc, ks⟩ := κ
  obtain ⟨ty, ht⟩ := ht
  refine fun ls H locs hl hP hS => va_alen (cA := G.2 t) (x := (n, .inl (M c))) X.1 X.2.1 X.2.2.2.2.2.1.1 hP c t ?_ ht hv hd (k ls H locs hl hP hS)
  rw [zwld_get G M F hc, hlay]; rfl
theorem z_aald (X : zCx κ G cc Ts own ret rf rl) {c t n b : Nat} {i : Int32} {ty : FieldType} (hc : c < 77) (hlay : zlay c = .inr (.inr (t, n, b))) (ht : (ztys G)[t]? = some (G.2 t, ty)) (hr : ty.isReference = true) (hin : vp_in i n) (hd : decode cc pc = .ok (.aaload, 1)) (k : zV κ G (pc + 1) lv (.ref (G.1 (b + i.toNatClampNeg)) :: st) M F) : zV κ G pc lv (.int i :: .ref (G.1 c) :: st) M F := by
  obtain ⟨p, l, e, R, s, m, args, below, meth, cdd, D, A, Q, nL, kc, ks⟩ := κ
  intro ls H locs hl hP hS
  have hlt : i.toNatClampNeg < n := Nat.not_le.mp fun q => hin (Or.inr q)
  have ha : (zwld G M F)[c]? = some (G.1 c, .inl (G.2 t, n, .inr (.inr (.inr (.inr (fun j => if j < n then some (G.1 (b + j)) else none)))))) := by
    rw [zwld_get G M F hc, hlay]; rfl
  refine W.aald (v := .ref (G.1 (b + i.toNatClampNeg))) (ty := ty) X.1 X.2.1 (hP c _ ha) ((X.2.2.2.2.2.1.1.2 t _ ht).1 n (fun j => va_rf (if j < n then some (G.1 (b + j)) else none))) hr (fun q => by cases q) (by show ¬ (i < 0 ∨ (arrV _ _ _).slots.size ≤ _); rw [arrV_size]; exact hin) (by show (arrV _ _ _).slots[_]? = _; rw [arrV_read _ _ hlt]; dsimp only; rw [if_pos hlt]; rfl) rfl rfl hd (k ls H locs hl hP hS)
theorem z_copy (X : zCx κ G cc Ts own ret rf rl) {c0 c1 n0 n1 : Nat} {index : Nat} {sp dp n : Int32} (hc0 : c0 < 77) (hc1 : c1 < 77) (hlay0 : zlay c0 = .inr (.inl (0, n0))) (hlay1 : zlay c1 = .inr (.inl (0, n1))) (hlink : Cond.methodLink own index arraycopyName ∈ Ts) (hnat : Cond.native arraycopyName ∈ Ts) (hstat : Cond.static arraycopyName ∈ Ts) (hini : Cond.initialized "java/lang/System" ∈ Ts)
    (h1 : ¬ sp < 0) (h2 : ¬ dp < 0) (h3 : ¬ n < 0) (h4 : sp.toNatClampNeg + n.toNatClampNeg ≤ n0) (h5 : dp.toNatClampNeg + n.toNatClampNeg ≤ n1) (hfr : 1 ≤ rf) (hlo : (st.map fun v => v.category).sum + (nativeFrameWords "java/lang/System" "arraycopy" 5 + 11) ≤ rl) (hd : decode cc pc = .ok (.invokestatic index, 3))
    (k : zV κ G (pc + 3) lv (st) (zwa M c1 (va_cpy (M c0) (M c1) sp.toNatClampNeg dp.toNatClampNeg n.toNatClampNeg)) F) : zV κ G pc lv (.int n :: .int dp :: .ref (G.1 c1) :: .int sp :: .ref (G.1 c0) :: st) M F := by
  obtain ⟨p, l, e, R, s, m, args, below, meth, cdd, D, A, Q, nL, kc, ks⟩ := κ
  refine fun ls H locs hl hP hS => va_copyi (f := M c0) (g := M c1) (ty := .int) X.1 X.2.1 (X.2.2.1.trans hl.1.symm) X.2.2.2.1 (X.2.2.2.2.1 _ hlink) (X.2.2.2.2.1 _ hnat) (X.2.2.2.2.1 _ hstat) (X.2.2.2.2.1 _ hini) X.2.2.2.2.2.1.1 hP (X.2.2.2.2.2.2.1.D M F) hS c0 c1 0 0 ?_ ?_ rfl rfl rfl h1 h2 h3 h4 h5 (fun _ _ => rfl) (Nat.le_trans hfr X.2.2.2.2.2.2.2.2.2.2.1) (Nat.le_trans hlo X.2.2.2.2.2.2.2.2.2.2.2.1) hd (fun H1 locs1 hP1 hD1 hS1 => k ls H1 locs1 hl ?_ hS1)
  · rw [zwld_get G M F hc0, hlay0]; rfl
  · rw [zwld_get G M F hc1, hlay1]; rfl
  · rw [zwld_set (M' := zwa M c1 (va_cpy (M c0) (M c1) sp.toNatClampNeg dp.toNatClampNeg n.toNatClampNeg)) (F' := F) hc1 (by rw [hlay1]; show Sum.inl (G.2 0, n1, Sum.inl _) = _; rw [zwa_same]) (fun c' _ hne => zent_congr (zwa_ne M _ hne) _)] at hP1
    exact hP1
theorem z_mmax (X : zCx κ G cc Ts own ret rf rl) {index : Nat} {x y : Int32} (hlink : Cond.methodLink own index Lib.Math.max.name ∈ Ts) (hstat : Cond.static Lib.Math.max.name ∈ Ts) (hini : Cond.initialized "java/lang/Math" ∈ Ts) (hcode : Cond.code Lib.Math.max.name Lib.Math.max.code 2 (some .int) ∈ Ts) (hfr : 1 ≤ rf) (hlo : (st.map fun v => v.category).sum + 13 ≤ rl) (hd : decode cc pc = .ok (.invokestatic index, 3)) (k : zV κ G (pc + 3) lv (.int (if x < y then y else x) :: st) M F) : zV κ G pc lv (.int y :: .int x :: st) M F := by
  obtain ⟨p, l, e, R, s, m, args, below, meth, cdd, D, A, Q, nL, kc, ks⟩ := κ
  exact fun ls H locs hl hP hS => va_mmax X.1 X.2.1 (X.2.2.1.trans hl.1.symm) X.2.2.2.1 (X.2.2.2.2.1 _ hlink) (X.2.2.2.2.1 _ hstat) (X.2.2.2.2.1 _ hini) (X.2.2.2.2.1 _ hcode) (Nat.le_trans hfr X.2.2.2.2.2.2.2.2.2.2.1) (Nat.le_trans hlo X.2.2.2.2.2.2.2.2.2.2.2.1) X.2.2.2.2.2.2.2.2.2.2.2.2.1 X.2.2.2.2.2.2.2.2.2.2.2.2.2 hd (k ls H locs hl hP hS)
theorem z_mmin (X : zCx κ G cc Ts own ret rf rl) {index : Nat} {x y : Int32} (hlink : Cond.methodLink own index Lib.Math.min.name ∈ Ts) (hstat : Cond.static Lib.Math.min.name ∈ Ts) (hini : Cond.initialized "java/lang/Math" ∈ Ts) (hcode : Cond.code Lib.Math.min.name Lib.Math.min.code 2 (some .int) ∈ Ts) (hfr : 1 ≤ rf) (hlo : (st.map fun v => v.category).sum + 13 ≤ rl) (hd : decode cc pc = .ok (.invokestatic index, 3)) (k : zV κ G (pc + 3) lv (.int (if y < x then y else x) :: st) M F) : zV κ G pc lv (.int y :: .int x :: st) M F := by
  obtain ⟨p, l, e, R, s, m, args, below, meth, cdd, D, A, Q, nL, kc, ks⟩ := κ
  exact fun ls H locs hl hP hS => va_mmin X.1 X.2.1 (X.2.2.1.trans hl.1.symm) X.2.2.2.1 (X.2.2.2.2.1 _ hlink) (X.2.2.2.2.1 _ hstat) (X.2.2.2.2.1 _ hini) (X.2.2.2.2.1 _ hcode) (Nat.le_trans hfr X.2.2.2.2.2.2.2.2.2.2.1) (Nat.le_trans hlo X.2.2.2.2.2.2.2.2.2.2.2.1) X.2.2.2.2.2.2.2.2.2.2.2.2.1 X.2.2.2.2.2.2.2.2.2.2.2.2.2 hd (k ls H locs hl hP hS)
theorem z_mabs (X : zCx κ G cc Ts own ret rf rl) {index : Nat} {x : Int32} (hlink : Cond.methodLink own index Lib.Math.abs.name ∈ Ts) (hstat : Cond.static Lib.Math.abs.name ∈ Ts) (hini : Cond.initialized "java/lang/Math" ∈ Ts) (hcode : Cond.code Lib.Math.abs.name Lib.Math.abs.code 1 (some .int) ∈ Ts) (hfr : 1 ≤ rf) (hlo : (st.map fun v => v.category).sum + 13 ≤ rl) (hd : decode cc pc = .ok (.invokestatic index, 3)) (k : zV κ G (pc + 3) lv (.int (if 0 ≤ x then x else 0 - x) :: st) M F) : zV κ G pc lv (.int x :: st) M F := by
  obtain ⟨p, l, e, R, s, m, args, below, meth, cdd, D, A, Q, nL, kc, ks⟩ := κ
  exact fun ls H locs hl hP hS => va_mabs X.1 X.2.1 (X.2.2.1.trans hl.1.symm) X.2.2.2.1 (X.2.2.2.2.1 _ hlink) (X.2.2.2.2.1 _ hstat) (X.2.2.2.2.1 _ hini) (X.2.2.2.2.1 _ hcode) (Nat.le_trans hfr X.2.2.2.2.2.2.2.2.2.2.1) (Nat.le_trans hlo X.2.2.2.2.2.2.2.2.2.2.2.1) X.2.2.2.2.2.2.2.2.2.2.2.2.1 X.2.2.2.2.2.2.2.2.2.2.2.2.2 hd (k ls H locs hl hP hS)
theorem z_mabs_long (X : zCx κ G cc Ts own ret rf rl) {index : Nat} {x : Int64} (hlink : Cond.methodLink own index Lib.MathLoose.abs_long.x ∈ Ts) (hstat : Cond.static Lib.MathLoose.abs_long.x ∈ Ts) (hini : Cond.initialized "java/lang/Math" ∈ Ts) (hcode : Cond.code Lib.MathLoose.abs_long.x Lib.MathLoose.abs_long.code 2 (some .long) ∈ Ts) (hfr : 1 ≤ rf) (hlo : (st.map fun v => v.category).sum + 13 ≤ rl) (hd : decode cc pc = .ok (.invokestatic index, 3)) (k : zV κ G (pc + 3) lv (.long (if 0 < x then x else -x) :: st) M F) : zV κ G pc lv (.long x :: st) M F := by
  obtain ⟨p, l, e, R, s, m, args, below, meth, cdd, D, A, Q, nL, kc, ks⟩ := κ
  exact fun ls H locs hl hP hS => va_mabs_long X.1 X.2.1 (X.2.2.1.trans hl.1.symm) X.2.2.2.1 (X.2.2.2.2.1 _ hlink) (X.2.2.2.2.1 _ hstat) (X.2.2.2.2.1 _ hini) (X.2.2.2.2.1 _ hcode) (Nat.le_trans hfr X.2.2.2.2.2.2.2.2.2.2.1) (Nat.le_trans hlo X.2.2.2.2.2.2.2.2.2.2.2.1) X.2.2.2.2.2.2.2.2.2.2.2.2.1 X.2.2.2.2.2.2.2.2.2.2.2.2.2 hd (k ls H locs hl hP hS)
theorem z_iret (X : zCx κ G cc Ts own (some .int) rf rl) {v : Int32} (Z : zRx κ G (some (.int v)) M F) (hd : decode cc pc = .ok (.ireturn, 1)) : zV κ G pc lv [.int v] M F := by
  obtain ⟨p, l, e, R, s, m, args, below, meth, cdd, D, A, Q, nL, kc, ks⟩ := κ
  obtain ⟨rfl, rfl, rfl⟩ := Z
  exact fun ls H locs hl hP hS => W.iret X.1 X.2.1 X.2.2.2.2.2.2.2.2.1 (fun t ht hW => ⟨⟨rfl, by rw [ht]; exact hP⟩, hS.F ht⟩) hS.2.2 hd X.2.2.2.2.2.2.2.2.2.1
theorem z_lret (X : zCx κ G cc Ts own (some .long) rf rl) {v : Int64} (Z : zRx κ G (some (.long v)) M F) (hd : decode cc pc = .ok (.lreturn, 1)) : zV κ G pc lv [.long v] M F := by
  obtain ⟨p, l, e, R, s, m, args, below, meth, cdd, D, A, Q, nL, kc, ks⟩ := κ
  obtain ⟨rfl, rfl, rfl⟩ := Z
  exact fun ls H locs hl hP hS => W.lret X.1 X.2.1 X.2.2.2.2.2.2.2.2.1 (fun t ht hW => ⟨⟨rfl, by rw [ht]; exact hP⟩, hS.F ht⟩) hS.2.2 hd X.2.2.2.2.2.2.2.2.2.1
theorem z_vret (X : zCx κ G cc Ts own (none) rf rl) (Z : zRx κ G (none) M F) (hd : decode cc pc = .ok (.return_, 1)) : zV κ G pc lv [] M F := by
  obtain ⟨p, l, e, R, s, m, args, below, meth, cdd, D, A, Q, nL, kc, ks⟩ := κ
  obtain ⟨rfl, rfl, rfl⟩ := Z
  exact fun ls H locs hl hP hS => W.vret X.1 X.2.1 X.2.2.2.2.2.2.2.2.1 (fun t ht hW => ⟨⟨rfl, by rw [ht]; exact hP⟩, hS.F ht⟩) hS.2.2 hd X.2.2.2.2.2.2.2.2.2.1
theorem z_nar {v : Int32} (h : v = 0 ∨ v = 1) : narrow .boolean (.int v) = .int v := by rcases h with rfl | rfl <;> rfl
theorem z_zret (X : zCx κ G cc Ts own (some .boolean) rf rl) {v : Int32} (hv : v = 0 ∨ v = 1) (Z : zRx κ G (some (.int v)) M F) (hd : decode cc pc = .ok (.ireturn, 1)) : zV κ G pc lv [.int v] M F := by
  obtain ⟨p, l, e, R, s, m, args, below, meth, cdd, D, A, Q, nL, kc, ks⟩ := κ
  obtain ⟨rfl, rfl, rfl⟩ := Z
  exact fun ls H locs hl hP hS => W.zret X.1 X.2.1 X.2.2.2.2.2.2.2.2.1 (z_nar hv) (fun t ht hW => ⟨⟨rfl, by rw [ht]; exact hP⟩, hS.F ht⟩) hS.2.2 hd X.2.2.2.2.2.2.2.2.2.1
end ZROWS
section ZCALL
variable {κ : zK} {G : zG} {cc : ByteArray} {Ts : List Cond} {own : String} {ret : Option FieldType} {rf rl : Nat} {pc : Nat} {lv : List (Nat × Value)} {st : List Value} {M : zMem} {F : Int64}
/-- a call's run, then what follows -/
theorem z_go {p : Program} {l : Launch} {e : Env} {R : Room} {s : State} {m : MethodId} {args : Array Value} {below : List Frame} {meth : Method} {c : Code} {H : Heap} {locs : List Loc} {cells slots : Nat} {Q : State → Prop} {ls : Array Slot} {rest st0 : List Value} {a : Array Value} {A0 : Nat → Prop} {D : va_G} {rv : Option Value} {M' : zMem} {F' : Int64}
    (hr : va_Run p l e R s m args below meth c H locs cells slots 0 0 (F0 m pc ls st0) rest (zQx D G rv M' F' (va_A (zwld G M F) H.size) a) (va_A (zwld G M F) H.size)) (hS : va_S A0 s.heap H locs) (hA : ∀ q, va_A (zwld G M F) H.size q → A0 q)
    (kk : ∀ (H1 : Heap) (locs1 : List Loc), va_P D vwCl (zwld G M' F') H1 → va_S A0 s.heap H1 locs1 → W p l e R s m args below meth c H1 locs1 cells slots Q (F0 m (pc + 3) ls (rv.toList ++ rest))) : W p l e R s m args below meth c H locs cells slots Q (F0 m pc ls st0) := by
  intro T hT X
  obtain ⟨v, st₀, t, T', L, h0, X', hL, e1, e2, ⟨⟨hv, hb⟩, hz, hk⟩, st⟩ := hr T hT X
  cases hv
  rw [h0] at hz hk
  obtain ⟨t2, a1, b1⟩ := kk T'.heap (locs ++ L) (by rw [e1]; exact hb)
    ⟨Nat.le_trans hS.1 (by rw [e1]; exact hz), fun q h1 h2 => by rw [e1, hk q (Nat.lt_of_lt_of_le h1 hS.1) (fun z => h2 (hA q z))]; exact hS.2.1 q h1 h2, fun q hq => by
      rcases List.mem_append.mp hq with h | h
      · exact hS.2.2 q h
      · exact hA _ (hL q h)⟩ T' rfl X'
  exact ⟨t2, st t2 a1, b1⟩
theorem zDD.free {A : Nat → Prop} (h : zDD G A) {H0 H : Heap} (hA : ∀ q, H0.size ≤ q → A q) (hs : H0.size ≤ H.size) : ∀ q, va_A (zwld G M F) H.size q → A q := by
  intro q hq
  rcases hq with ⟨k, e, hq⟩ | hq
  · exact (h.D M F).2 k (q, e) hq
  · exact hA q (Nat.le_trans hs hq)
theorem z_callV (X : zCx κ G cc Ts own ret rf rl) {y : MethodName} {ws ws' : List Cond} {fr lo : Nat} {c ci : Nat} {fds : List zFd} {T : u_T} {N index n maxL : Nat} {C : String} {bytes : ByteArray} {rt : Option FieldType} {As stk : List Value} {rv : Option Value} {M' : zMem} {F' : Int64}
    (hM : zCM κ.2.1 y ws { frames := fr, cells := 0, slots := 0, locals := lo } κ.2.2.2.2.2.2.2.2.2.2.1 G (.ref (G.1 c) :: As) M F rv M' F') (hT : GoodIn Ts (wsV own index C y ws)) (hw : ws = Cond.code y bytes maxL rt :: ws')
    (hd2 : y.cls = C ∧ y.cls ≠ "java/lang/invoke/MethodHandle" ∧ y.cls ≠ "java/lang/invoke/VarHandle" ∧ (parseMethodDescriptor y.desc).map (fun d => d.parameters.length) = some n) (hc : c < 77) (hlay : zlay c = .inl (ci, fds)) (hcl : vwCl[ci]? = some (C, T, N))
    (hn : As.length = n) (hstk : stk = As.reverse ++ .ref (G.1 c) :: st) (hfr : fr + 1 ≤ rf) (hlo : 8 + (maxL + 11) + lo ≤ rl) (hst : (st.map fun v => v.category).sum ≤ 8) (hd : decode cc pc = .ok (.invokevirtual index, 3))
    (k : zV κ G (pc + 3) lv (rv.toList ++ st) M' F') : zV κ G pc lv stk M F := by
  obtain ⟨p, l, e, R, s, m, args, below, meth, c0, D, A, Q, nL, kc, ks⟩ := κ
  intro ls H locs hl hP hS
  have hX := X
  obtain ⟨hx, hb, hml, hown, hts, hK, hDD, hA, hret, hlk, hrf, hrl, hkc, hks⟩ := hX
  have hget : (zwld G M F)[c]? = some (G.1 c, .inr (ci, zfvs G M F c fds)) := by rw [zwld_get G M F hc, hlay]; rfl
  refine z_go (M := M) (F := F) (D := D) (rv := rv) (M' := M') (F' := F') (va_runV (As := As) (rest := st) ⟨hx, hb, hml, hown, hts⟩ (hM H.size) (cwV n hts hT hw rfl rfl hd2 ⟨Nat.le_trans hfr hrf, Nat.le_trans hlo hrl⟩) ⟨zPc_blind _ _ _ _ _ _, va_recv hK.1 hP hcl hget, fun U hU hW => ⟨rfl, by rw [hU], by rw [hU]; exact hP, hK.warm hW, ⟨hDD.1, fun _ _ => trivial⟩⟩⟩ rfl hn hl.1 hstk (lv_room hst) hd ⟨hkc, hks⟩) hS (hDD.free hA hS.1) (fun H1 locs1 hP1 hS1 => k ls H1 locs1 hl hP1 hS1)
theorem z_callS (X : zCx κ G cc Ts own ret rf rl) {y : MethodName} {ws ws' : List Cond} {fr lo : Nat} {index n maxL : Nat} {bytes : ByteArray} {rt : Option FieldType} {As stk : List Value} {rv : Option Value} {M' : zMem} {F' : Int64}
    (hM : zCM κ.2.1 y ws { frames := fr, cells := 0, slots := 0, locals := lo } κ.2.2.2.2.2.2.2.2.2.2.1 G As M F rv M' F') (hT : GoodIn Ts (va_wsS own index y ws)) (hw : ws = Cond.code y bytes maxL rt :: ws')
    (hd2 : y.cls ≠ "java/lang/invoke/MethodHandle" ∧ y.cls ≠ "java/lang/invoke/VarHandle" ∧ (parseMethodDescriptor y.desc).map (fun d => d.parameters.length) = some n)
    (hn : As.length = n) (hstk : stk = As.reverse ++ st) (hfr : fr + 1 ≤ rf) (hlo : 8 + (maxL + 11) + lo ≤ rl) (hst : (st.map fun v => v.category).sum ≤ 8) (hd : decode cc pc = .ok (.invokestatic index, 3))
    (k : zV κ G (pc + 3) lv (rv.toList ++ st) M' F') : zV κ G pc lv stk M F := by
  obtain ⟨p, l, e, R, s, m, args, below, meth, c0, D, A, Q, nL, kc, ks⟩ := κ
  intro ls H locs hl hP hS
  have hX := X
  obtain ⟨hx, hb, hml, hown, hts, hK, hDD, hA, hret, hlk, hrf, hrl, hkc, hks⟩ := hX
  refine z_go (M := M) (F := F) (D := D) (rv := rv) (M' := M') (F' := F') (va_runS (As := As) (rest := st) ⟨hx, hb, hml, hown, hts⟩ (hM H.size) (va_cwS n hts hT hw rfl rfl hd2 ⟨Nat.le_trans hfr hrf, Nat.le_trans hlo hrl⟩) ⟨zPc_blind _ _ _ _ _ _, fun U hU hW => ⟨rfl, by rw [hU], by rw [hU]; exact hP, hK.warm hW, ⟨hDD.1, fun _ _ => trivial⟩⟩⟩ rfl hn hl.1 hstk (lv_room hst) hd ⟨hkc, hks⟩) hS (hDD.free hA hS.1) (fun H1 locs1 hP1 hS1 => k ls H1 locs1 hl hP1 hS1)
theorem z_callSN (X : zCx κ G cc Ts own ret rf rl) {y : MethodName} {ws ws' : List Cond} {fr lo : Nat} {index n maxL : Nat} {bytes : ByteArray} {rt : Option FieldType} {As stk : List Value} {rv : Option Value} {M' : zMem} {F' : Int64} {host : String}
    (hM : zCM κ.2.1 y ws { frames := fr, cells := 0, slots := 0, locals := lo } κ.2.2.2.2.2.2.2.2.2.2.1 G As M F rv M' F') (hG : GoodIn Ts ws) (hw : ws = Cond.code y bytes maxL rt :: ws') (hnest : Cond.methodLinkNest own index y host ∈ zNest) (hini : Cond.initialized y.cls ∈ Ts) (hstat : Cond.static y ∈ Ts)
    (hd2 : y.cls ≠ "java/lang/invoke/MethodHandle" ∧ y.cls ≠ "java/lang/invoke/VarHandle" ∧ (parseMethodDescriptor y.desc).map (fun d => d.parameters.length) = some n)
    (hn : As.length = n) (hstk : stk = As.reverse ++ st) (hfr : fr + 1 ≤ rf) (hlo : 8 + (maxL + 11) + lo ≤ rl) (hst : (st.map fun v => v.category).sum ≤ 8) (hd : decode cc pc = .ok (.invokestatic index, 3))
    (k : zV κ G (pc + 3) lv (rv.toList ++ st) M' F') : zV κ G pc lv stk M F := by
  obtain ⟨p, l, e, R, s, m, args, below, meth, c0, D, A, Q, nL, kc, ks⟩ := κ
  intro ls H locs hl hP hS
  have hX := X
  obtain ⟨hx, hb, hml, hown, hts, hK, hDD, hA, hret, hlk, hrf, hrl, hkc, hks⟩ := hX
  refine z_go (M := M) (F := F) (D := D) (rv := rv) (M' := M') (F' := F') (va_runSN (As := As) (rest := st) ⟨hx, hb, hml, hown, hts⟩ (hM H.size) ⟨va_cnB n hts hG hw rfl rfl (hK.2 _ hnest) (hts _ hini) hd2 ⟨Nat.le_trans hfr hrf, Nat.le_trans hlo hrl⟩, hts _ hstat, trivial⟩ ⟨zPc_blind _ _ _ _ _ _, fun U hU hW => ⟨rfl, by rw [hU], by rw [hU]; exact hP, hK.warm hW, ⟨hDD.1, fun _ _ => trivial⟩⟩⟩ rfl hn hl.1 hstk (lv_room hst) hd ⟨hkc, hks⟩) hS (hDD.free hA hS.1) (fun H1 locs1 hP1 hS1 => k ls H1 locs1 hl hP1 hS1)
end ZCALL
