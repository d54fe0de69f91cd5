/-! ===== BEGIN words of one list among another's, by their places ===== -/
theorem goodIn_r {big : List Cond} (ws : List Cond) (ps : List Nat) (hp : ws = ps.filterMap (fun i => big[i]?)) (h : ws.all goodWord = true) : GoodIn big ws := by
  intro w hw
  have h1 := List.all_eq_true.mp h w hw
  rw [hp] at hw
  obtain ⟨i, -, hi⟩ := List.mem_filterMap.mp hw
  have hm : w ∈ big := by first | exact List.mem_of_getElem? hi | exact List.getElem?_mem hi
  exact ⟨hm, good_of_word h1⟩
theorem goodIn_app {big a b : List Cond} (ha : GoodIn big a) (hb : GoodIn big b) : GoodIn big (a ++ b) := fun w h => (List.mem_append.mp h).elim (ha w) (hb w)
theorem goodIn_ca {big a b : List Cond} {c : Cond} (ha : GoodIn big (c :: a)) (hb : GoodIn big b) : GoodIn big (c :: (a ++ b)) := fun w h => (List.mem_cons.mp h).elim (fun e => ha w (List.mem_cons.mpr (Or.inl e))) (fun h => (List.mem_append.mp h).elim (fun h => ha w (List.mem_cons.mpr (Or.inr h))) (hb w))
theorem goodIn_sub {big ws : List Cond} (hm : ∀ w ∈ ws, w ∈ big) (h : ws.all goodWord = true) : GoodIn big ws := fun w hw => ⟨hm w hw, good_of_word (List.all_eq_true.mp h w hw)⟩
/-! ===== END ===== -/

/-! ===== BEGIN new T[n][m]: the outer array a place, the inner ones among the pooled ===== -/
/-- f, but v at every address of l -/
def vr_up {α : Type} (f : Nat → α) (l : List Nat) (v : α) : Nat → α := fun a => if a ∈ l then v else f a
theorem vr_up_in {α : Type} {f : Nat → α} {l : List Nat} {v : α} {a : Nat} (h : a ∈ l) : vr_up f l v a = v := if_pos h
theorem vr_up_ne {α : Type} {f : Nat → α} {l : List Nat} {v : α} {a : Nat} (h : a ∉ l) : vr_up f l v a = f a := if_neg h
theorem vr_rows {L l : List Nat} {f : Nat → va_E} {e : va_E} (h : ∀ a, a ∈ l → a ∉ L) : va_pl L f ++ l.map (fun a => (a, e)) = va_pl (L ++ l) (vr_up f l e) := by
  unfold va_pl
  rw [List.map_append]
  congr 1
  · apply List.map_congr_left
    intro a ha
    rw [vr_up_ne (fun q => h a q ha)]
  · apply List.map_congr_left
    intro a ha
    rw [vr_up_in ha]
theorem vr_lay {X rows : va_W} {x : Nat × va_E} {pl : va_W} {D : va_G} {cl : List vw_C} {H : Heap} (hP : va_P D cl (((X ++ pl) ++ [x]) ++ rows) H) : va_P D cl ((X ++ [x]) ++ (pl ++ rows)) H := by
  rw [List.append_assoc (X ++ pl)] at hP
  have h := va_P.swap hP
  rw [← List.append_assoc X] at h
  have h2 := va_P.swap h
  rw [List.append_assoc (X ++ [x])] at h2
  exact h2
theorem vr_layD {X rows : va_W} {x : Nat × va_E} {pl : va_W} {A : Nat → Prop} (hD : va_D A (((X ++ pl) ++ [x]) ++ rows)) : va_D A ((X ++ [x]) ++ (pl ++ rows)) := by
  rw [List.append_assoc (X ++ pl)] at hD
  have h := va_D.swap hD
  rw [← List.append_assoc X] at h
  have h2 := va_D.swap h
  rw [List.append_assoc (X ++ [x])] at h2
  exact h2
theorem vr_outer (c : ClassId) (N h0 : Nat) : ∀ i : Nat, Jvm.Free.Multi.outerC c N h0 i = arrV c N (fun j => va_rf (if j < i then some (h0 + 1 + j) else none))
  | 0 => by
    show ({ cls := c, slots := Array.replicate N .null, vm := .none } : Cell) = _
    rw [arrV_new]
    refine congrArg (arrV c N) (funext fun j => ?_)
    simp [va_rf]
  | i + 1 => by
    show (Jvm.Free.Multi.outerC c N h0 i).setSlot i (.ref (h0 + 1 + i)) = _
    rw [vr_outer c N h0 i, arrV_store]
    refine congrArg (arrV c N) (funext fun j => ?_)
    by_cases e : j = i
    · subst e
      simp [updV, va_rf]
    · by_cases h : j < i
      · simp [updV, e, h, Nat.lt_succ_of_lt h]
      · simp [updV, e, h, show ¬ j < i + 1 by omega]
section VGM
variable {p : Program} {l : Launch} {e : Env} {R : Room} {s : State} {m : MethodId} {args : Array Value} {below : List Frame} {meth : Method} {c : Code} {H : Heap} {locs : List Loc} {cells slots : Nat} {Q : State → Prop}
variable {cc : ByteArray} {pc : Nat} {ls : Array Slot} {rest : List Value} {D : va_G} {cl : List vw_C} {A : Nat → Prop} {a : Nat} {tys : List (ClassId × FieldType)} {ws : va_W} {H0 : Heap}
theorem va_mna {X : va_W} {L : List Nat} {f : Nat → va_E} {cc : ByteArray} (hexec : p.tables.exec = Jvm.exec) (hb : c.code = cc) {own : String} {index : Nat} {ty : FieldType} {cy : ClassId} (hown : s.vm.findClass own = some m.cls) (hclink : (Cond.classLink own index ("[" ++ (FieldType.array ty).toString)).before args s = true) (hover : va_AOA ty s) (harr : (Cond.arrayClass ty).before args s = true) (hcy : s.vm.findClass (FieldType.array ty).toString = some cy)
    (hK : va_K D cl tys s) (hP : va_P D cl (X ++ va_pl L f) H) (hD : va_D A (X ++ va_pl L f)) (hS : va_S A H0 H locs) (hA : ∀ q, H0.size ≤ q → A q) {n k : Int32} {N' K' : Nat} {z : vp_A} (hn : ¬ n < 0) (hk : ¬ k < 0) (hN : n.toNatClampNeg = N') (hM : k.toNatClampNeg = K')
    (hb1 : N' * 4 ≤ 536870912) (hb2 : K' * componentBytes ty ≤ 536870912) (hb3 : K' ≤ 536870912) (hdf : fits ty (defaultValue ty) = true) (hdd : (defaultValue ty).isDefault = true) (hcells : cells + (1 + N') ≤ R.cells) (hslots : slots + (N' + N' * K') ≤ R.slots) (hz : ∀ c : ClassId, Jvm.Free.Multi.innerC c K' (defaultValue ty) = vp_cell c z) (hdg : decode cc pc = .ok (.multianewarray index 2, 4))
    (kk : ∀ (q : Nat) (r : Nat → Nat) (cA : ClassId) (H1 : Heap), (∀ i j : Nat, i < N' → j < N' → r i = r j → i = j) → (∀ i : Nat, i < N' → r i ∉ L) → va_K D cl (tys ++ [(cA, .array ty)]) s →
      va_P D cl ((X ++ [(q, .inl (cA, N', .inr (.inr (.inr (.inr (fun i => if i < N' then some (r i) else none))))))]) ++ va_pl (L ++ (List.range N').map r) (vr_up f ((List.range N').map r) (.inl (cy, z)))) H1 → va_D A ((X ++ [(q, .inl (cA, N', .inr (.inr (.inr (.inr (fun i => if i < N' then some (r i) else none))))))]) ++ va_pl (L ++ (List.range N').map r) (vr_up f ((List.range N').map r) (.inl (cy, z)))) → va_S A H0 H1 locs →
      W p l e R s m args below meth c H1 locs (cells + 1 + N') (slots + N' + N' * K') Q (F0 m (pc + 4) ls (.ref q :: rest))) : W p l e R s m args below meth c H locs cells slots Q (F0 m pc ls (.int k :: .int n :: rest)) := by
  subst hN
  subst hM
  intro T hT Xs
  obtain ⟨vm₁, cA, comp, -, fA, fC, hO, -, X', step⟩ := Xs.multianewarray2F hexec hown hclink (va_AOA.use hover) harr (g := F0 m pc ls (.int k :: .int n :: rest)) rfl (by rw [hb]; exact hdg) rfl hn hk hb1 hb2 hb3 hdf hdd hcells hslots
  have ec : some cy = some comp := hcy.symm.trans fC
  cases ec
  generalize hF : Jvm.Free.Multi.fill (T.setVm vm₁) cA cy n.toNatClampNeg k.toNatClampNeg (defaultValue ty) n.toNatClampNeg = F at X' step
  have hTh : (T.setVm vm₁).heap = H := hT
  obtain ⟨f1, f2, -, -⟩ := Jvm.Free.Multi.fill_facts (T.setVm vm₁) cA cy n.toNatClampNeg k.toNatClampNeg (defaultValue ty) n.toNatClampNeg
  rw [hF, hTh] at f1 f2
  have hold : ∀ x : Nat, x < H.size → F.heap[x]? = H[x]? := fun x hx => by
    have := Jvm.Free.Multi.fill_old (T.setVm vm₁) cA cy n.toNatClampNeg k.toNatClampNeg (defaultValue ty) (a := x) (by rw [hTh]; exact hx) n.toNatClampNeg
    rw [hF, hTh] at this
    exact this
  have hrow : ∀ j : Nat, j < n.toNatClampNeg → F.heap[H.size + 1 + j]? = some (vp_cell cy z) := fun j hj => by
    have := Jvm.Free.Multi.fill_inner (T.setVm vm₁) cA cy n.toNatClampNeg k.toNatClampNeg (defaultValue ty) n.toNatClampNeg j hj
    rw [hF, hTh, hz] at this
    exact this
  have hout : Jvm.Free.Multi.outerC cA n.toNatClampNeg H.size n.toNatClampNeg = vp_cell cA (n.toNatClampNeg, .inr (.inr (.inr (.inr (fun i => if i < n.toNatClampNeg then some (H.size + 1 + i) else none))))) := by
    rw [vp_cell_q]
    exact vr_outer cA n.toNatClampNeg H.size n.toNatClampNeg
  rw [hout] at f2
  have hlt : ∀ a, a ∈ L → a < H.size := fun a ha => by
    obtain ⟨k9, hk9⟩ := va_pl_get (X := X) (f := f) ha
    exact (hP k9 _ hk9).lt
  have hnl : ∀ i : Nat, i < n.toNatClampNeg → H.size + 1 + i ∉ L := fun i _ h => by
    have := hlt _ h
    omega
  have hnm : ∀ a, a ∈ (List.range n.toNatClampNeg).map (fun i => H.size + 1 + i) → a ∉ L := fun a ha h => by
    obtain ⟨i, -, rfl⟩ := List.mem_map.mp ha
    have := hlt _ h
    omega
  have hP0 : va_P D cl (X ++ va_pl L f) F.heap := hP.kept (fun k9 x hx => hold x.1 ((hP k9 x hx).lt))
  have hP1 : va_P D cl ((X ++ va_pl L f) ++ [(H.size, .inl (cA, n.toNatClampNeg, .inr (.inr (.inr (.inr (fun i => if i < n.toNatClampNeg then some (H.size + 1 + i) else none))))))]) F.heap := hP0.app (fun k9 x hx => by
    have h0 : k9 < 1 := (List.getElem?_eq_some_iff.mp hx).1
    rw [show k9 = 0 by omega] at hx
    cases hx
    exact f2)
  have hP2 : va_P D cl (((X ++ va_pl L f) ++ [(H.size, .inl (cA, n.toNatClampNeg, .inr (.inr (.inr (.inr (fun i => if i < n.toNatClampNeg then some (H.size + 1 + i) else none))))))]) ++ ((List.range n.toNatClampNeg).map (fun i => H.size + 1 + i)).map (fun a => (a, .inl (cy, z)))) F.heap := hP1.app (fun k9 x hx => by
    obtain ⟨a, ha, rfl⟩ := List.mem_map.mp (List.mem_of_getElem? hx)
    obtain ⟨i, hi, rfl⟩ := List.mem_map.mp ha
    exact hrow i (List.mem_range.mp hi))
  have hD2 : va_D A (((X ++ va_pl L f) ++ [(H.size, .inl (cA, n.toNatClampNeg, .inr (.inr (.inr (.inr (fun i => if i < n.toNatClampNeg then some (H.size + 1 + i) else none))))))]) ++ ((List.range n.toNatClampNeg).map (fun i => H.size + 1 + i)).map (fun a => (a, .inl (cy, z)))) := by
    have hD1 := hD.push (e := .inl (cA, n.toNatClampNeg, .inr (.inr (.inr (.inr (fun i => if i < n.toNatClampNeg then some (H.size + 1 + i) else none)))))) hP rfl (hA _ hS.1)
    generalize hW1 : (X ++ va_pl L f) ++ [(H.size, .inl (cA, n.toNatClampNeg, .inr (.inr (.inr (.inr (fun i => if i < n.toNatClampNeg then some (H.size + 1 + i) else none))))))] = W1 at hD1 hP1 ⊢
    have hle : ∀ (k9 : Nat) (x : Nat × va_E), W1[k9]? = some x → x.1 ≤ H.size := fun k9 x hx => by
      rw [← hW1] at hx
      by_cases hl : k9 < (X ++ va_pl L f).length
      · rw [List.getElem?_append_left hl] at hx
        exact Nat.le_of_lt ((hP k9 x hx).lt)
      · rw [List.getElem?_append_right (by omega)] at hx
        have h0 : k9 - (X ++ va_pl L f).length < 1 := (List.getElem?_eq_some_iff.mp hx).1
        rw [show k9 - (X ++ va_pl L f).length = 0 by omega] at hx
        cases hx
        exact Nat.le_refl _
    have hr : ∀ (k9 : Nat) (x : Nat × va_E), (((List.range n.toNatClampNeg).map (fun i => H.size + 1 + i)).map (fun a => ((a, .inl (cy, z)) : Nat × va_E)))[k9]? = some x → x.1 = H.size + 1 + k9 := fun k9 x hx => by
      rw [List.getElem?_map, List.getElem?_map] at hx
      by_cases h9 : k9 < n.toNatClampNeg
      · rw [List.getElem?_range h9] at hx
        cases hx
        rfl
      · have hn0 : (List.range n.toNatClampNeg)[k9]? = none := List.getElem?_eq_none (by rw [List.length_range]; omega)
        rw [hn0] at hx
        cases hx
    refine ⟨fun i j x y hi hj hxy => ?_, fun k9 x hx => ?_⟩
    · by_cases h1 : i < W1.length <;> by_cases h2 : j < W1.length
      · rw [List.getElem?_append_left h1] at hi
        rw [List.getElem?_append_left h2] at hj
        exact hD1.1 i j x y hi hj hxy
      · rw [List.getElem?_append_left h1] at hi
        rw [List.getElem?_append_right (by omega)] at hj
        have := hle _ _ hi
        have := hr _ _ hj
        omega
      · rw [List.getElem?_append_right (by omega)] at hi
        rw [List.getElem?_append_left h2] at hj
        have := hle _ _ hj
        have := hr _ _ hi
        omega
      · rw [List.getElem?_append_right (by omega)] at hi hj
        have := hr _ _ hi
        have := hr _ _ hj
        omega
    · by_cases h1 : k9 < W1.length
      · rw [List.getElem?_append_left h1] at hx
        exact hD1.2 k9 x hx
      · rw [List.getElem?_append_right (by omega)] at hx
        have := hr _ _ hx
        exact hA _ (by have := hS.1; omega)
  have hAr : ArrOfT s cA (.array ty) := fun N9 z9 => by
    obtain ⟨-, k9, hk9, cm9, hkk9⟩ := (hO 0 0 0).1
    exact ⟨(fun q hq => by cases hq), k9, hk9, cm9, hkk9⟩
  have hK2 : va_K D cl (tys ++ [(cA, .array ty)]) s := ⟨hK.1, fun k9 x hx => by
    by_cases hl : k9 < tys.length
    · rw [List.getElem?_append_left hl] at hx
      exact hK.2 k9 x hx
    · rw [List.getElem?_append_right (by omega)] at hx
      have h0 : k9 - tys.length < 1 := (List.getElem?_eq_some_iff.mp hx).1
      rw [show k9 - tys.length = 0 by omega] at hx
      cases hx
      exact ⟨hAr, fA⟩⟩
  obtain ⟨t, a1, b1⟩ := kk H.size (fun i => H.size + 1 + i) cA F.heap (fun i j _ _ h => by have h9 : H.size + 1 + i = H.size + 1 + j := h; omega) hnl hK2 (by rw [← vr_rows hnm]; exact vr_lay hP2) (by rw [← vr_rows hnm]; exact vr_layD hD2) ⟨by rw [f1]; have := hS.1; omega, fun x h1 h2 => (hold x (Nat.lt_of_lt_of_le h1 hS.1)).trans (hS.2.1 x h1 h2), hS.2.2⟩ F rfl X'
  refine ⟨t, step t ?_, b1⟩
  have e : T.heap.size = H.size := by rw [hT]
  rw [e]
  exact a1
end VGM
/-! ===== END ===== -/

/-! ===== BEGIN printed: names, fields, word lists, decode rows ===== -/
def RX0 : String := "LevelledInk$Baseline"
def TX0 : u_T := fun k => match k with
  | 0 => ("LevelledInk$Baseline", "reach", "[[I", true)
  | 1 => ("LevelledInk$Baseline", "rows", "[I", true)
  | 2 => ("LevelledInk$Baseline", "width", "I", false)
  | 3 => ("LevelledInk$Baseline", "first", "I", false)
  | 4 => ("LevelledInk$Baseline", "length", "I", false)
  | 5 => ("LevelledInk$Baseline", "firstRow", "I", false)
  | _ => ("LevelledInk$Baseline", "sum", "I", false)
def tyX0 : Nat → FieldType := fun k => match k with
  | 0 => .array (.array .int)
  | 1 => .array .int
  | 2 => .int
  | 3 => .int
  | 4 => .int
  | 5 => .int
  | _ => .int
abbrev wsX00 : List Cond := u_ws RX0 TX0 7
theorem nmX0 : ∀ a, a < 7 → ∀ b, b < 7 → a ≠ b → (TX0 a).2.1 ≠ (TX0 b).2.1 := by decide +kernel
theorem tyX0_ok : ∀ k, k < 7 → parseFieldDescriptor (TX0 k).2.2.1 = some (tyX0 k) := by decide +kernel
abbrev cX0_init : ByteArray := prog_2_method_1_code
def yX0_init : MethodName := ⟨RX0, "<init>", "()V"⟩
abbrev cX0_find : ByteArray := prog_2_method_2_code
def yX0_find : MethodName := ⟨RX0, "find", "(LLevelledInk$Sheet;)V"⟩
abbrev cX0_first : ByteArray := prog_2_method_3_code
def yX0_first : MethodName := ⟨RX0, "first", "()I"⟩
abbrev cX0_length : ByteArray := prog_2_method_4_code
def yX0_length : MethodName := ⟨RX0, "length", "()I"⟩
abbrev cX0_height : ByteArray := prog_2_method_5_code
def yX0_height : MethodName := ⟨RX0, "height", "()I"⟩
abbrev cX0_covers : ByteArray := prog_2_method_6_code
def yX0_covers : MethodName := ⟨RX0, "covers", "(I)Z"⟩
abbrev cX0_footRow : ByteArray := prog_2_method_7_code
def yX0_footRow : MethodName := ⟨RX0, "footRow", "(I)I"⟩
abbrev cX0_bend : ByteArray := prog_2_method_8_code
def yX0_bend : MethodName := ⟨RX0, "bend", "(I)I"⟩
abbrev cX0_meanBits : ByteArray := prog_2_method_9_code
def yX0_meanBits : MethodName := ⟨RX0, "meanBits", "()J"⟩
abbrev cX0_slopeBits : ByteArray := prog_2_method_10_code
def yX0_slopeBits : MethodName := ⟨RX0, "slopeBits", "()I"⟩
abbrev cX0_measure : ByteArray := prog_2_method_11_code
def yX0_measure : MethodName := ⟨RX0, "measure", "(II)V"⟩
abbrev cX0_follow : ByteArray := prog_2_method_12_code
def yX0_follow : MethodName := ⟨RX0, "follow", "()V"⟩
abbrev cX0_lowestOnward : ByteArray := prog_2_method_13_code
def yX0_lowestOnward : MethodName := ⟨RX0, "lowestOnward", "(II)I"⟩
abbrev cX0_reachAt : ByteArray := prog_2_method_14_code
def yX0_reachAt : MethodName := ⟨RX0, "reachAt", "(II)I"⟩
def RX1 : String := "LevelledInk$Binary"
def TX1 : u_T := fun k => match k with
  | _ => ("", "", "", false)
def tyX1 : Nat → FieldType := fun k => match k with
  | _ => .int
abbrev wsX10 : List Cond := u_ws RX1 TX1 0
theorem nmX1 : ∀ a, a < 0 → ∀ b, b < 0 → a ≠ b → (TX1 a).2.1 ≠ (TX1 b).2.1 := by decide +kernel
theorem tyX1_ok : ∀ k, k < 0 → parseFieldDescriptor (TX1 k).2.2.1 = some (tyX1 k) := by decide +kernel
abbrev cX1_nearestDouble : ByteArray := prog_3_method_2_code
def yX1_nearestDouble : MethodName := ⟨RX1, "nearestDouble", "(II)J"⟩
abbrev cX1_nearestFloat : ByteArray := prog_3_method_3_code
def yX1_nearestFloat : MethodName := ⟨RX1, "nearestFloat", "(II)I"⟩
abbrev cX1_doubleAboveWhole : ByteArray := prog_3_method_4_code
def yX1_doubleAboveWhole : MethodName := ⟨RX1, "doubleAboveWhole", "(J)J"⟩
abbrev cX1_nearest : ByteArray := prog_3_method_5_code
def yX1_nearest : MethodName := ⟨RX1, "nearest", "(JJII)J"⟩
abbrev cX1_packed : ByteArray := prog_3_method_6_code
def yX1_packed : MethodName := ⟨RX1, "packed", "(IJII)J"⟩
def RX2 : String := "LevelledInk$Card"
def TX2 : u_T := fun k => match k with
  | 0 => ("LevelledInk$Card", "places", "[I", true)
  | 1 => ("LevelledInk$Card", "sort", "I", false)
  | _ => ("LevelledInk$Card", "length", "I", false)
def tyX2 : Nat → FieldType := fun k => match k with
  | 0 => .array .int
  | 1 => .int
  | _ => .int
abbrev wsX20 : List Cond := u_ws RX2 TX2 3
theorem nmX2 : ∀ a, a < 3 → ∀ b, b < 3 → a ≠ b → (TX2 a).2.1 ≠ (TX2 b).2.1 := by decide +kernel
theorem tyX2_ok : ∀ k, k < 3 → parseFieldDescriptor (TX2 k).2.2.1 = some (tyX2 k) := by decide +kernel
abbrev cX2_init : ByteArray := prog_4_method_1_code
def yX2_init : MethodName := ⟨RX2, "<init>", "()V"⟩
abbrev cX2_isNothing : ByteArray := prog_4_method_2_code
def yX2_isNothing : MethodName := ⟨RX2, "isNothing", "()Z"⟩
abbrev cX2_drop : ByteArray := prog_4_method_3_code
def yX2_drop : MethodName := ⟨RX2, "drop", "()V"⟩
abbrev cX2_renew : ByteArray := prog_4_method_4_code
def yX2_renew : MethodName := ⟨RX2, "renew", "(II)V"⟩
abbrev cX2_hasPlace : ByteArray := prog_4_method_5_code
def yX2_hasPlace : MethodName := ⟨RX2, "hasPlace", "(I)Z"⟩
abbrev cX2_number : ByteArray := prog_4_method_6_code
def yX2_number : MethodName := ⟨RX2, "number", "(I)I"⟩
abbrev cX2_write : ByteArray := prog_4_method_7_code
def yX2_write : MethodName := ⟨RX2, "write", "(II)V"⟩
abbrev cX2_faultAt : ByteArray := prog_4_method_8_code
def yX2_faultAt : MethodName := ⟨RX2, "faultAt", "(I)I"⟩
abbrev cX2_faultOfCopy : ByteArray := prog_4_method_9_code
def yX2_faultOfCopy : MethodName := ⟨RX2, "faultOfCopy", "(ILLevelledInk$Card;II)I"⟩
abbrev cX2_copyTo : ByteArray := prog_4_method_10_code
def yX2_copyTo : MethodName := ⟨RX2, "copyTo", "(ILLevelledInk$Card;II)V"⟩
abbrev cX2_hasPart : ByteArray := prog_4_method_11_code
def yX2_hasPart : MethodName := ⟨RX2, "hasPart", "(II)Z"⟩
abbrev cX2_cut : ByteArray := prog_4_method_12_code
def yX2_cut : MethodName := ⟨RX2, "cut", "(I)I"⟩
def RX3 : String := "LevelledInk$Shears"
def TX3 : u_T := fun k => match k with
  | 0 => ("LevelledInk$Shears", "counts", "[I", true)
  | 1 => ("LevelledInk$Shears", "order", "[I", true)
  | 2 => ("LevelledInk$Shears", "seen", "[Z", true)
  | 3 => ("LevelledInk$Shears", "attempts", "I", false)
  | 4 => ("LevelledInk$Shears", "sharpest", "I", false)
  | _ => ("LevelledInk$Shears", "greatest", "I", false)
def tyX3 : Nat → FieldType := fun k => match k with
  | 0 => .array .int
  | 1 => .array .int
  | 2 => .array .boolean
  | 3 => .int
  | 4 => .int
  | _ => .int
abbrev wsX30 : List Cond := u_ws RX3 TX3 6
theorem nmX3 : ∀ a, a < 6 → ∀ b, b < 6 → a ≠ b → (TX3 a).2.1 ≠ (TX3 b).2.1 := by decide +kernel
theorem tyX3_ok : ∀ k, k < 6 → parseFieldDescriptor (TX3 k).2.2.1 = some (tyX3 k) := by decide +kernel
abbrev cX3_init : ByteArray := prog_5_method_1_code
def yX3_init : MethodName := ⟨RX3, "<init>", "()V"⟩
abbrev cX3_attempts : ByteArray := prog_5_method_2_code
def yX3_attempts : MethodName := ⟨RX3, "attempts", "()I"⟩
abbrev cX3_attempt : ByteArray := prog_5_method_3_code
def yX3_attempt : MethodName := ⟨RX3, "attempt", "(I)I"⟩
abbrev cX3_sharpest : ByteArray := prog_5_method_4_code
def yX3_sharpest : MethodName := ⟨RX3, "sharpest", "()I"⟩
abbrev cX3_countAt : ByteArray := prog_5_method_5_code
def yX3_countAt : MethodName := ⟨RX3, "countAt", "(LLevelledInk$Sheet;III)I"⟩
abbrev cX3_sharpness : ByteArray := prog_5_method_6_code
def yX3_sharpness : MethodName := ⟨RX3, "sharpness", "(LLevelledInk$Sheet;II)I"⟩
abbrev cX3_tryAll : ByteArray := prog_5_method_7_code
def yX3_tryAll : MethodName := ⟨RX3, "tryAll", "(LLevelledInk$Sheet;I)V"⟩
abbrev cX3_search : ByteArray := prog_5_method_8_code
def yX3_search : MethodName := ⟨RX3, "search", "(LLevelledInk$Sheet;I)V"⟩
abbrev cX3_begin : ByteArray := prog_5_method_9_code
def yX3_begin : MethodName := ⟨RX3, "begin", "()V"⟩
abbrev cX3_attemptAt : ByteArray := prog_5_method_10_code
def yX3_attemptAt : MethodName := ⟨RX3, "attemptAt", "(LLevelledInk$Sheet;II)V"⟩
abbrev cX3_isBetter : ByteArray := prog_5_method_11_code
def yX3_isBetter : MethodName := ⟨RX3, "isBetter", "(II)Z"⟩
abbrev cX3_tally : ByteArray := prog_5_method_12_code
def yX3_tally : MethodName := ⟨RX3, "tally", "(LLevelledInk$Sheet;II)V"⟩
abbrev cX3_countIn : ByteArray := prog_5_method_13_code
def yX3_countIn : MethodName := ⟨RX3, "countIn", "(I)V"⟩
def RX4 : String := "LevelledInk$Sheet"
def TX4 : u_T := fun k => match k with
  | 0 => ("LevelledInk$Sheet", "columns", "[I", true)
  | 1 => ("LevelledInk$Sheet", "fresh", "[I", true)
  | 2 => ("LevelledInk$Sheet", "earlier", "[[I", true)
  | 3 => ("LevelledInk$Sheet", "width", "I", false)
  | 4 => ("LevelledInk$Sheet", "kept", "I", false)
  | _ => ("LevelledInk$Sheet", "next", "I", false)
def tyX4 : Nat → FieldType := fun k => match k with
  | 0 => .array .int
  | 1 => .array .int
  | 2 => .array (.array .int)
  | 3 => .int
  | 4 => .int
  | _ => .int
abbrev wsX40 : List Cond := u_ws RX4 TX4 6
theorem nmX4 : ∀ a, a < 6 → ∀ b, b < 6 → a ≠ b → (TX4 a).2.1 ≠ (TX4 b).2.1 := by decide +kernel
theorem tyX4_ok : ∀ k, k < 6 → parseFieldDescriptor (TX4 k).2.2.1 = some (tyX4 k) := by decide +kernel
abbrev cX4_init : ByteArray := prog_6_method_1_code
def yX4_init : MethodName := ⟨RX4, "<init>", "()V"⟩
abbrev cX4_width : ByteArray := prog_6_method_2_code
def yX4_width : MethodName := ⟨RX4, "width", "()I"⟩
abbrev cX4_hasColumn : ByteArray := prog_6_method_3_code
def yX4_hasColumn : MethodName := ⟨RX4, "hasColumn", "(I)Z"⟩
abbrev cX4_dots : ByteArray := prog_6_method_4_code
def yX4_dots : MethodName := ⟨RX4, "dots", "(I)I"⟩
abbrev cX4_inked : ByteArray := prog_6_method_5_code
def yX4_inked : MethodName := ⟨RX4, "inked", "(II)Z"⟩
abbrev cX4_draw : ByteArray := prog_6_method_6_code
def yX4_draw : MethodName := ⟨RX4, "draw", "(IIZ)V"⟩
abbrev cX4_renew : ByteArray := prog_6_method_7_code
def yX4_renew : MethodName := ⟨RX4, "renew", "(I)V"⟩
abbrev cX4_ink : ByteArray := prog_6_method_8_code
def yX4_ink : MethodName := ⟨RX4, "ink", "()I"⟩
abbrev cX4_inkOfRow : ByteArray := prog_6_method_9_code
def yX4_inkOfRow : MethodName := ⟨RX4, "inkOfRow", "(I)I"⟩
abbrev cX4_feet : ByteArray := prog_6_method_10_code
def yX4_feet : MethodName := ⟨RX4, "feet", "(I)I"⟩
abbrev cX4_allFeet : ByteArray := prog_6_method_11_code
def yX4_allFeet : MethodName := ⟨RX4, "allFeet", "()I"⟩
abbrev cX4_moves : ByteArray := prog_6_method_12_code
def yX4_moves : MethodName := ⟨RX4, "moves", "()I"⟩
abbrev cX4_forgetMoves : ByteArray := prog_6_method_13_code
def yX4_forgetMoves : MethodName := ⟨RX4, "forgetMoves", "()V"⟩
abbrev cX4_takeBack : ByteArray := prog_6_method_14_code
def yX4_takeBack : MethodName := ⟨RX4, "takeBack", "()V"⟩
abbrev cX4_slideColumns : ByteArray := prog_6_method_15_code
def yX4_slideColumns : MethodName := ⟨RX4, "slideColumns", "([I)I"⟩
abbrev cX4_slideRows : ByteArray := prog_6_method_16_code
def yX4_slideRows : MethodName := ⟨RX4, "slideRows", "([I)I"⟩
abbrev cX4_raised : ByteArray := prog_6_method_17_code
def yX4_raised : MethodName := ⟨RX4, "raised", "(II)I"⟩
abbrev cX4_finishMove : ByteArray := prog_6_method_18_code
def yX4_finishMove : MethodName := ⟨RX4, "finishMove", "()V"⟩
def RX5 : String := "LevelledInk$Strokes"
def TX5 : u_T := fun k => match k with
  | 0 => ("LevelledInk$Strokes", "rows", "[I", true)
  | 1 => ("LevelledInk$Strokes", "firsts", "[I", true)
  | 2 => ("LevelledInk$Strokes", "lasts", "[I", true)
  | 3 => ("LevelledInk$Strokes", "links", "[I", true)
  | 4 => ("LevelledInk$Strokes", "numbers", "[I", true)
  | 5 => ("LevelledInk$Strokes", "runs", "I", false)
  | _ => ("LevelledInk$Strokes", "count", "I", false)
def tyX5 : Nat → FieldType := fun k => match k with
  | 0 => .array .int
  | 1 => .array .int
  | 2 => .array .int
  | 3 => .array .int
  | 4 => .array .int
  | 5 => .int
  | _ => .int
abbrev wsX50 : List Cond := u_ws RX5 TX5 7
theorem nmX5 : ∀ a, a < 7 → ∀ b, b < 7 → a ≠ b → (TX5 a).2.1 ≠ (TX5 b).2.1 := by decide +kernel
theorem tyX5_ok : ∀ k, k < 7 → parseFieldDescriptor (TX5 k).2.2.1 = some (tyX5 k) := by decide +kernel
abbrev cX5_init : ByteArray := prog_7_method_1_code
def yX5_init : MethodName := ⟨RX5, "<init>", "()V"⟩
abbrev cX5_find : ByteArray := prog_7_method_2_code
def yX5_find : MethodName := ⟨RX5, "find", "(LLevelledInk$Sheet;)V"⟩
abbrev cX5_runs : ByteArray := prog_7_method_3_code
def yX5_runs : MethodName := ⟨RX5, "runs", "()I"⟩
abbrev cX5_count : ByteArray := prog_7_method_4_code
def yX5_count : MethodName := ⟨RX5, "count", "()I"⟩
abbrev cX5_rowOf : ByteArray := prog_7_method_5_code
def yX5_rowOf : MethodName := ⟨RX5, "rowOf", "(I)I"⟩
abbrev cX5_firstOf : ByteArray := prog_7_method_6_code
def yX5_firstOf : MethodName := ⟨RX5, "firstOf", "(I)I"⟩
abbrev cX5_dotsOf : ByteArray := prog_7_method_7_code
def yX5_dotsOf : MethodName := ⟨RX5, "dotsOf", "(I)I"⟩
abbrev cX5_strokeOf : ByteArray := prog_7_method_8_code
def yX5_strokeOf : MethodName := ⟨RX5, "strokeOf", "(I)I"⟩
abbrev cX5_dotsTogether : ByteArray := prog_7_method_9_code
def yX5_dotsTogether : MethodName := ⟨RX5, "dotsTogether", "(I)I"⟩
abbrev cX5_runsTogether : ByteArray := prog_7_method_10_code
def yX5_runsTogether : MethodName := ⟨RX5, "runsTogether", "(I)I"⟩
abbrev cX5_leastRow : ByteArray := prog_7_method_11_code
def yX5_leastRow : MethodName := ⟨RX5, "leastRow", "(I)I"⟩
abbrev cX5_greatestRow : ByteArray := prog_7_method_12_code
def yX5_greatestRow : MethodName := ⟨RX5, "greatestRow", "(I)I"⟩
abbrev cX5_leastColumn : ByteArray := prog_7_method_13_code
def yX5_leastColumn : MethodName := ⟨RX5, "leastColumn", "(I)I"⟩
abbrev cX5_greatestColumn : ByteArray := prog_7_method_14_code
def yX5_greatestColumn : MethodName := ⟨RX5, "greatestColumn", "(I)I"⟩
abbrev cX5_least : ByteArray := prog_7_method_15_code
def yX5_least : MethodName := ⟨RX5, "least", "([II)I"⟩
abbrev cX5_greatest : ByteArray := prog_7_method_16_code
def yX5_greatest : MethodName := ⟨RX5, "greatest", "([II)I"⟩
abbrev cX5_isRun : ByteArray := prog_7_method_17_code
def yX5_isRun : MethodName := ⟨RX5, "isRun", "(I)Z"⟩
abbrev cX5_addRuns : ByteArray := prog_7_method_18_code
def yX5_addRuns : MethodName := ⟨RX5, "addRuns", "(LLevelledInk$Sheet;I)V"⟩
abbrev cX5_linkRows : ByteArray := prog_7_method_19_code
def yX5_linkRows : MethodName := ⟨RX5, "linkRows", "(II)V"⟩
abbrev cX5_join : ByteArray := prog_7_method_20_code
def yX5_join : MethodName := ⟨RX5, "join", "(II)V"⟩
abbrev cX5_firstRun : ByteArray := prog_7_method_21_code
def yX5_firstRun : MethodName := ⟨RX5, "firstRun", "(I)I"⟩
abbrev cX5_numberStrokes : ByteArray := prog_7_method_22_code
def yX5_numberStrokes : MethodName := ⟨RX5, "numberStrokes", "()V"⟩
def RX6 : String := "LevelledInk"
def TX6 : u_T := fun k => match k with
  | 0 => ("LevelledInk", "sheet", "LLevelledInk$Sheet;", true)
  | 1 => ("LevelledInk", "cards", "[LLevelledInk$Card;", true)
  | 2 => ("LevelledInk", "shears", "LLevelledInk$Shears;", true)
  | 3 => ("LevelledInk", "strokes", "LLevelledInk$Strokes;", true)
  | 4 => ("LevelledInk", "line", "LLevelledInk$Baseline;", true)
  | 5 => ("LevelledInk", "slides", "[I", true)
  | _ => ("LevelledInk", "lastFault", "I", false)
def tyX6 : Nat → FieldType := fun k => match k with
  | 0 => .object "LevelledInk$Sheet"
  | 1 => .array (.object "LevelledInk$Card")
  | 2 => .object "LevelledInk$Shears"
  | 3 => .object "LevelledInk$Strokes"
  | 4 => .object "LevelledInk$Baseline"
  | 5 => .array .int
  | _ => .int
abbrev wsX60 : List Cond := u_ws RX6 TX6 7
theorem nmX6 : ∀ a, a < 7 → ∀ b, b < 7 → a ≠ b → (TX6 a).2.1 ≠ (TX6 b).2.1 := by decide +kernel
theorem tyX6_ok : ∀ k, k < 7 → parseFieldDescriptor (TX6 k).2.2.1 = some (tyX6 k) := by decide +kernel
abbrev cX6_init : ByteArray := prog_1_method_1_code
def yX6_init : MethodName := ⟨RX6, "<init>", "()V"⟩
abbrev cX6_page : ByteArray := prog_1_method_2_code
def yX6_page : MethodName := ⟨RX6, "page", "(I)I"⟩
abbrev cX6_dot : ByteArray := prog_1_method_3_code
def yX6_dot : MethodName := ⟨RX6, "dot", "(III)I"⟩
abbrev cX6_column : ByteArray := prog_1_method_4_code
def yX6_column : MethodName := ⟨RX6, "column", "(I)J"⟩
abbrev cX6_row : ByteArray := prog_1_method_5_code
def yX6_row : MethodName := ⟨RX6, "row", "(II)I"⟩
abbrev cX6_take : ByteArray := prog_1_method_6_code
def yX6_take : MethodName := ⟨RX6, "take", "(II)I"⟩
abbrev cX6_blank : ByteArray := prog_1_method_7_code
def yX6_blank : MethodName := ⟨RX6, "blank", "(III)I"⟩
abbrev cX6_put : ByteArray := prog_1_method_8_code
def yX6_put : MethodName := ⟨RX6, "put", "(III)I"⟩
abbrev cX6_get : ByteArray := prog_1_method_9_code
def yX6_get : MethodName := ⟨RX6, "get", "(II)J"⟩
abbrev cX6_copy : ByteArray := prog_1_method_10_code
def yX6_copy : MethodName := ⟨RX6, "copy", "(IIIII)I"⟩
abbrev cX6_lose : ByteArray := prog_1_method_11_code
def yX6_lose : MethodName := ⟨RX6, "lose", "(I)I"⟩
abbrev cX6_shift : ByteArray := prog_1_method_12_code
def yX6_shift : MethodName := ⟨RX6, "shift", "(III)I"⟩
abbrev cX6_profile : ByteArray := prog_1_method_13_code
def yX6_profile : MethodName := ⟨RX6, "profile", "(III)I"⟩
abbrev cX6_sharp : ByteArray := prog_1_method_14_code
def yX6_sharp : MethodName := ⟨RX6, "sharp", "(II)I"⟩
abbrev cX6_best : ByteArray := prog_1_method_15_code
def yX6_best : MethodName := ⟨RX6, "best", "(I)I"⟩
abbrev cX6_found : ByteArray := prog_1_method_16_code
def yX6_found : MethodName := ⟨RX6, "found", "(I)I"⟩
abbrev cX6_tried : ByteArray := prog_1_method_17_code
def yX6_tried : MethodName := ⟨RX6, "tried", "(II)I"⟩
abbrev cX6_shear : ByteArray := prog_1_method_18_code
def yX6_shear : MethodName := ⟨RX6, "shear", "(II)I"⟩
abbrev cX6_run : ByteArray := prog_1_method_19_code
def yX6_run : MethodName := ⟨RX6, "run", "(II)I"⟩
abbrev cX6_stroke : ByteArray := prog_1_method_20_code
def yX6_stroke : MethodName := ⟨RX6, "stroke", "(II)I"⟩
abbrev cX6_baseline : ByteArray := prog_1_method_21_code
def yX6_baseline : MethodName := ⟨RX6, "baseline", "(I)I"⟩
abbrev cX6_foot : ByteArray := prog_1_method_22_code
def yX6_foot : MethodName := ⟨RX6, "foot", "(I)I"⟩
abbrev cX6_curl : ByteArray := prog_1_method_23_code
def yX6_curl : MethodName := ⟨RX6, "curl", "(I)I"⟩
abbrev cX6_mean : ByteArray := prog_1_method_24_code
def yX6_mean : MethodName := ⟨RX6, "mean", "()J"⟩
abbrev cX6_rest : ByteArray := prog_1_method_25_code
def yX6_rest : MethodName := ⟨RX6, "rest", "()J"⟩
abbrev cX6_slope : ByteArray := prog_1_method_26_code
def yX6_slope : MethodName := ⟨RX6, "slope", "()I"⟩
abbrev cX6_level : ByteArray := prog_1_method_27_code
def yX6_level : MethodName := ⟨RX6, "level", "()I"⟩
abbrev cX6_back : ByteArray := prog_1_method_28_code
def yX6_back : MethodName := ⟨RX6, "back", "()I"⟩
abbrev cX6_fault : ByteArray := prog_1_method_29_code
def yX6_fault : MethodName := ⟨RX6, "fault", "()I"⟩
abbrev cX6_many : ByteArray := prog_1_method_30_code
def yX6_many : MethodName := ⟨RX6, "many", "(I)I"⟩
abbrev cX6_isRow : ByteArray := prog_1_method_31_code
def yX6_isRow : MethodName := ⟨RX6, "isRow", "(I)Z"⟩
abbrev cX6_isCard : ByteArray := prog_1_method_32_code
def yX6_isCard : MethodName := ⟨RX6, "isCard", "(I)Z"⟩
abbrev cX6_isAxis : ByteArray := prog_1_method_33_code
def yX6_isAxis : MethodName := ⟨RX6, "isAxis", "(I)Z"⟩
abbrev cX6_isShear : ByteArray := prog_1_method_34_code
def yX6_isShear : MethodName := ⟨RX6, "isShear", "(I)Z"⟩
abbrev cX6_failed : ByteArray := prog_1_method_35_code
def yX6_failed : MethodName := ⟨RX6, "failed", "(I)I"⟩
abbrev cX6_filledCards : ByteArray := prog_1_method_36_code
def yX6_filledCards : MethodName := ⟨RX6, "filledCards", "()I"⟩
abbrev cX6_shiftOf : ByteArray := prog_1_method_37_code
def yX6_shiftOf : MethodName := ⟨RX6, "shiftOf", "(III)I"⟩
def RX7 : String := "LevelledInkModel"
def TX7 : u_T := fun k => match k with
  | 0 => ("LevelledInkModel", "fault", "I", false)
  | 1 => ("LevelledInkModel", "width", "I", false)
  | 2 => ("LevelledInkModel", "ink", "[Z", true)
  | 3 => ("LevelledInkModel", "sortOf", "[I", true)
  | 4 => ("LevelledInkModel", "longOf", "[I", true)
  | 5 => ("LevelledInkModel", "card", "[I", true)
  | 6 => ("LevelledInkModel", "counts", "[I", true)
  | 7 => ("LevelledInkModel", "tries", "I", false)
  | 8 => ("LevelledInkModel", "tryOf", "[I", true)
  | 9 => ("LevelledInkModel", "sharpOf", "[I", true)
  | 10 => ("LevelledInkModel", "moves", "I", false)
  | 11 => ("LevelledInkModel", "kept", "[Z", true)
  | 12 => ("LevelledInkModel", "then", "[Z", true)
  | 13 => ("LevelledInkModel", "runs", "I", false)
  | 14 => ("LevelledInkModel", "runRow", "[I", true)
  | 15 => ("LevelledInkModel", "runFrom", "[I", true)
  | 16 => ("LevelledInkModel", "runLong", "[I", true)
  | 17 => ("LevelledInkModel", "strokeOf", "[I", true)
  | 18 => ("LevelledInkModel", "strokes", "I", false)
  | 19 => ("LevelledInkModel", "leads", "[I", true)
  | 20 => ("LevelledInkModel", "firstColumn", "I", false)
  | 21 => ("LevelledInkModel", "manyColumns", "I", false)
  | 22 => ("LevelledInkModel", "footOf", "[I", true)
  | 23 => ("LevelledInkModel", "curls", "[I", true)
  | 24 => ("LevelledInkModel", "figures", "J", false)
  | _ => ("LevelledInkModel", "power", "I", false)
def tyX7 : Nat → FieldType := fun k => match k with
  | 0 => .int
  | 1 => .int
  | 2 => .array .boolean
  | 3 => .array .int
  | 4 => .array .int
  | 5 => .array .int
  | 6 => .array .int
  | 7 => .int
  | 8 => .array .int
  | 9 => .array .int
  | 10 => .int
  | 11 => .array .boolean
  | 12 => .array .boolean
  | 13 => .int
  | 14 => .array .int
  | 15 => .array .int
  | 16 => .array .int
  | 17 => .array .int
  | 18 => .int
  | 19 => .array .int
  | 20 => .int
  | 21 => .int
  | 22 => .array .int
  | 23 => .array .int
  | 24 => .long
  | _ => .int
abbrev wsX70 : List Cond := u_ws RX7 TX7 26
theorem nmX7 : ∀ a, a < 26 → ∀ b, b < 26 → a ≠ b → (TX7 a).2.1 ≠ (TX7 b).2.1 := by decide +kernel
theorem tyX7_ok : ∀ k, k < 26 → parseFieldDescriptor (TX7 k).2.2.1 = some (tyX7 k) := by decide +kernel
abbrev cX7_init : ByteArray := prog_9_method_1_code
def yX7_init : MethodName := ⟨RX7, "<init>", "()V"⟩
abbrev cX7_refused : ByteArray := prog_9_method_2_code
def yX7_refused : MethodName := ⟨RX7, "refused", "(I)I"⟩
abbrev cX7_fails : ByteArray := prog_9_method_3_code
def yX7_fails : MethodName := ⟨RX7, "fails", "(I)I"⟩
abbrev cX7_within : ByteArray := prog_9_method_4_code
def yX7_within : MethodName := ⟨RX7, "within", "(III)Z"⟩
abbrev cX7_isColumn : ByteArray := prog_9_method_5_code
def yX7_isColumn : MethodName := ⟨RX7, "isColumn", "(I)Z"⟩
abbrev cX7_isRow : ByteArray := prog_9_method_6_code
def yX7_isRow : MethodName := ⟨RX7, "isRow", "(I)Z"⟩
abbrev cX7_isDot : ByteArray := prog_9_method_7_code
def yX7_isDot : MethodName := ⟨RX7, "isDot", "(II)Z"⟩
abbrev cX7_inkOf : ByteArray := prog_9_method_8_code
def yX7_inkOf : MethodName := ⟨RX7, "inkOf", "()I"⟩
abbrev cX7_page : ByteArray := prog_9_method_9_code
def yX7_page : MethodName := ⟨RX7, "page", "(I)I"⟩
abbrev cX7_dot : ByteArray := prog_9_method_10_code
def yX7_dot : MethodName := ⟨RX7, "dot", "(III)I"⟩
abbrev cX7_column : ByteArray := prog_9_method_11_code
def yX7_column : MethodName := ⟨RX7, "column", "(I)J"⟩
abbrev cX7_isCard : ByteArray := prog_9_method_12_code
def yX7_isCard : MethodName := ⟨RX7, "isCard", "(I)Z"⟩
abbrev cX7_cut : ByteArray := prog_9_method_13_code
def yX7_cut : MethodName := ⟨RX7, "cut", "(II)I"⟩
abbrev cX7_row : ByteArray := prog_9_method_14_code
def yX7_row : MethodName := ⟨RX7, "row", "(II)I"⟩
abbrev cX7_clears : ByteArray := prog_9_method_15_code
def yX7_clears : MethodName := ⟨RX7, "clears", "(III)V"⟩
abbrev cX7_take : ByteArray := prog_9_method_16_code
def yX7_take : MethodName := ⟨RX7, "take", "(II)I"⟩
abbrev cX7_blank : ByteArray := prog_9_method_17_code
def yX7_blank : MethodName := ⟨RX7, "blank", "(III)I"⟩
abbrev cX7_against : ByteArray := prog_9_method_18_code
def yX7_against : MethodName := ⟨RX7, "against", "(II)I"⟩
abbrev cX7_put : ByteArray := prog_9_method_19_code
def yX7_put : MethodName := ⟨RX7, "put", "(III)I"⟩
abbrev cX7_get : ByteArray := prog_9_method_20_code
def yX7_get : MethodName := ⟨RX7, "get", "(II)J"⟩
abbrev cX7_copy : ByteArray := prog_9_method_21_code
def yX7_copy : MethodName := ⟨RX7, "copy", "(IIIII)I"⟩
abbrev cX7_lose : ByteArray := prog_9_method_22_code
def yX7_lose : MethodName := ⟨RX7, "lose", "(I)I"⟩
abbrev cX7_down : ByteArray := prog_9_method_23_code
def yX7_down : MethodName := ⟨RX7, "down", "(II)I"⟩
abbrev cX7_rounded : ByteArray := prog_9_method_24_code
def yX7_rounded : MethodName := ⟨RX7, "rounded", "(II)I"⟩
abbrev cX7_isAxis : ByteArray := prog_9_method_25_code
def yX7_isAxis : MethodName := ⟨RX7, "isAxis", "(I)Z"⟩
abbrev cX7_isShear : ByteArray := prog_9_method_26_code
def yX7_isShear : MethodName := ⟨RX7, "isShear", "(I)Z"⟩
abbrev cX7_shiftOf : ByteArray := prog_9_method_27_code
def yX7_shiftOf : MethodName := ⟨RX7, "shiftOf", "(III)I"⟩
abbrev cX7_sheared : ByteArray := prog_9_method_28_code
def yX7_sheared : MethodName := ⟨RX7, "sheared", "(IIII)I"⟩
abbrev cX7_shift : ByteArray := prog_9_method_29_code
def yX7_shift : MethodName := ⟨RX7, "shift", "(III)I"⟩
abbrev cX7_findProfile : ByteArray := prog_9_method_30_code
def yX7_findProfile : MethodName := ⟨RX7, "findProfile", "(II)V"⟩
abbrev cX7_profile : ByteArray := prog_9_method_31_code
def yX7_profile : MethodName := ⟨RX7, "profile", "(III)I"⟩
abbrev cX7_sharpness : ByteArray := prog_9_method_32_code
def yX7_sharpness : MethodName := ⟨RX7, "sharpness", "(II)I"⟩
abbrev cX7_sharp : ByteArray := prog_9_method_33_code
def yX7_sharp : MethodName := ⟨RX7, "sharp", "(II)I"⟩
abbrev cX7_far : ByteArray := prog_9_method_34_code
def yX7_far : MethodName := ⟨RX7, "far", "(I)I"⟩
abbrev cX7_isAhead : ByteArray := prog_9_method_35_code
def yX7_isAhead : MethodName := ⟨RX7, "isAhead", "(IIII)Z"⟩
abbrev cX7_tryIt : ByteArray := prog_9_method_36_code
def yX7_tryIt : MethodName := ⟨RX7, "tryIt", "(II)V"⟩
abbrev cX7_bestTried : ByteArray := prog_9_method_37_code
def yX7_bestTried : MethodName := ⟨RX7, "bestTried", "()I"⟩
abbrev cX7_best : ByteArray := prog_9_method_38_code
def yX7_best : MethodName := ⟨RX7, "best", "(I)I"⟩
abbrev cX7_search : ByteArray := prog_9_method_39_code
def yX7_search : MethodName := ⟨RX7, "search", "(I)V"⟩
abbrev cX7_found : ByteArray := prog_9_method_40_code
def yX7_found : MethodName := ⟨RX7, "found", "(I)I"⟩
abbrev cX7_tried : ByteArray := prog_9_method_41_code
def yX7_tried : MethodName := ⟨RX7, "tried", "(II)I"⟩
abbrev cX7_keeps : ByteArray := prog_9_method_42_code
def yX7_keeps : MethodName := ⟨RX7, "keeps", "()V"⟩
abbrev cX7_goesTo : ByteArray := prog_9_method_43_code
def yX7_goesTo : MethodName := ⟨RX7, "goesTo", "(IIII)I"⟩
abbrev cX7_moveAll : ByteArray := prog_9_method_44_code
def yX7_moveAll : MethodName := ⟨RX7, "moveAll", "(II)I"⟩
abbrev cX7_shear : ByteArray := prog_9_method_45_code
def yX7_shear : MethodName := ⟨RX7, "shear", "(II)I"⟩
abbrev cX7_back : ByteArray := prog_9_method_46_code
def yX7_back : MethodName := ⟨RX7, "back", "()I"⟩
abbrev cX7_findRuns : ByteArray := prog_9_method_47_code
def yX7_findRuns : MethodName := ⟨RX7, "findRuns", "()V"⟩
abbrev cX7_areTouching : ByteArray := prog_9_method_48_code
def yX7_areTouching : MethodName := ⟨RX7, "areTouching", "(II)Z"⟩
abbrev cX7_spreads : ByteArray := prog_9_method_49_code
def yX7_spreads : MethodName := ⟨RX7, "spreads", "(I)V"⟩
abbrev cX7_findStrokes : ByteArray := prog_9_method_50_code
def yX7_findStrokes : MethodName := ⟨RX7, "findStrokes", "()V"⟩
abbrev cX7_run : ByteArray := prog_9_method_51_code
def yX7_run : MethodName := ⟨RX7, "run", "(II)I"⟩
abbrev cX7_stroke : ByteArray := prog_9_method_52_code
def yX7_stroke : MethodName := ⟨RX7, "stroke", "(II)I"⟩
abbrev cX7_isFoot : ByteArray := prog_9_method_53_code
def yX7_isFoot : MethodName := ⟨RX7, "isFoot", "(II)Z"⟩
abbrev cX7_leadsAt : ByteArray := prog_9_method_54_code
def yX7_leadsAt : MethodName := ⟨RX7, "leadsAt", "(II)I"⟩
abbrev cX7_findLeads : ByteArray := prog_9_method_55_code
def yX7_findLeads : MethodName := ⟨RX7, "findLeads", "()V"⟩
abbrev cX7_lowest : ByteArray := prog_9_method_56_code
def yX7_lowest : MethodName := ⟨RX7, "lowest", "(IIII)I"⟩
abbrev cX7_findBaseline : ByteArray := prog_9_method_57_code
def yX7_findBaseline : MethodName := ⟨RX7, "findBaseline", "()V"⟩
abbrev cX7_rowsTogether : ByteArray := prog_9_method_58_code
def yX7_rowsTogether : MethodName := ⟨RX7, "rowsTogether", "()I"⟩
abbrev cX7_levelOf : ByteArray := prog_9_method_59_code
def yX7_levelOf : MethodName := ⟨RX7, "levelOf", "()I"⟩
abbrev cX7_curlOf : ByteArray := prog_9_method_60_code
def yX7_curlOf : MethodName := ⟨RX7, "curlOf", "(I)I"⟩
abbrev cX7_findCurls : ByteArray := prog_9_method_61_code
def yX7_findCurls : MethodName := ⟨RX7, "findCurls", "()V"⟩
abbrev cX7_baseline : ByteArray := prog_9_method_62_code
def yX7_baseline : MethodName := ⟨RX7, "baseline", "(I)I"⟩
abbrev cX7_foot : ByteArray := prog_9_method_63_code
def yX7_foot : MethodName := ⟨RX7, "foot", "(I)I"⟩
abbrev cX7_curl : ByteArray := prog_9_method_64_code
def yX7_curl : MethodName := ⟨RX7, "curl", "(I)I"⟩
abbrev cX7_level : ByteArray := prog_9_method_65_code
def yX7_level : MethodName := ⟨RX7, "level", "()I"⟩
abbrev cX7_nearest : ByteArray := prog_9_method_66_code
def yX7_nearest : MethodName := ⟨RX7, "nearest", "(III)V"⟩
abbrev cX7_bits : ByteArray := prog_9_method_67_code
def yX7_bits : MethodName := ⟨RX7, "bits", "(II)J"⟩
abbrev cX7_mean : ByteArray := prog_9_method_68_code
def yX7_mean : MethodName := ⟨RX7, "mean", "()J"⟩
abbrev cX7_rest : ByteArray := prog_9_method_69_code
def yX7_rest : MethodName := ⟨RX7, "rest", "()J"⟩
abbrev cX7_slope : ByteArray := prog_9_method_70_code
def yX7_slope : MethodName := ⟨RX7, "slope", "()I"⟩
abbrev cX7_fault : ByteArray := prog_9_method_71_code
def yX7_fault : MethodName := ⟨RX7, "fault", "()I"⟩
abbrev cX7_feet : ByteArray := prog_9_method_72_code
def yX7_feet : MethodName := ⟨RX7, "feet", "()I"⟩
abbrev cX7_many : ByteArray := prog_9_method_73_code
def yX7_many : MethodName := ⟨RX7, "many", "(I)I"⟩
def RJ6 : String := "java/lang/Integer"
def TJ6 : u_T := fun k => match k with
  | _ => ("", "", "", false)
def tyJ6 : Nat → FieldType := fun k => match k with
  | _ => .int
abbrev wsJ60 : List Cond := u_ws RJ6 TJ6 0
theorem nmJ6 : ∀ a, a < 0 → ∀ b, b < 0 → a ≠ b → (TJ6 a).2.1 ≠ (TJ6 b).2.1 := by decide +kernel
theorem tyJ6_ok : ∀ k, k < 0 → parseFieldDescriptor (TJ6 k).2.2.1 = some (tyJ6 k) := by decide +kernel
abbrev cJ6_bitCount_0f7a4 : ByteArray := prog_10_method_49_code
def yJ6_bitCount_0f7a4 : MethodName := ⟨RJ6, "bitCount", "(I)I"⟩
def RJ9 : String := "java/lang/Math"
def TJ9 : u_T := fun k => match k with
  | _ => ("", "", "", false)
def tyJ9 : Nat → FieldType := fun k => match k with
  | _ => .int
abbrev wsJ90 : List Cond := u_ws RJ9 TJ9 0
theorem nmJ9 : ∀ a, a < 0 → ∀ b, b < 0 → a ≠ b → (TJ9 a).2.1 ≠ (TJ9 b).2.1 := by decide +kernel
theorem tyJ9_ok : ∀ k, k < 0 → parseFieldDescriptor (TJ9 k).2.2.1 = some (tyJ9 k) := by decide +kernel
abbrev cJ9_floorDiv_7cf53 : ByteArray := prog_11_method_47_code
def yJ9_floorDiv_7cf53 : MethodName := ⟨RJ9, "floorDiv", "(II)I"⟩
abbrev cJ9_abs_0f7a4 : ByteArray := prog_11_method_59_code
def yJ9_abs_0f7a4 : MethodName := ⟨RJ9, "abs", "(I)I"⟩
abbrev cJ9_abs_067f4 : ByteArray := prog_11_method_61_code
def yJ9_abs_067f4 : MethodName := ⟨RJ9, "abs", "(J)J"⟩
abbrev cJ9_max_7cf53 : ByteArray := prog_11_method_65_code
def yJ9_max_7cf53 : MethodName := ⟨RJ9, "max", "(II)I"⟩
abbrev cJ9_min_7cf53 : ByteArray := prog_11_method_69_code
def yJ9_min_7cf53 : MethodName := ⟨RJ9, "min", "(II)I"⟩
def RJ10 : String := "java/lang/System"
def TJ10 : u_T := fun k => match k with
  | _ => ("", "", "", false)
def tyJ10 : Nat → FieldType := fun k => match k with
  | _ => .int
abbrev wsJ100 : List Cond := u_ws RJ10 TJ10 0
theorem nmJ10 : ∀ a, a < 0 → ∀ b, b < 0 → a ≠ b → (TJ10 a).2.1 ≠ (TJ10 b).2.1 := by decide +kernel
theorem tyJ10_ok : ∀ k, k < 0 → parseFieldDescriptor (TJ10 k).2.2.1 = some (tyJ10 k) := by decide +kernel
def RJ7 : String := "java/util/Arrays"
def TJ7 : u_T := fun k => match k with
  | _ => ("", "", "", false)
def tyJ7 : Nat → FieldType := fun k => match k with
  | _ => .int
abbrev wsJ70 : List Cond := u_ws RJ7 TJ7 0
theorem nmJ7 : ∀ a, a < 0 → ∀ b, b < 0 → a ≠ b → (TJ7 a).2.1 ≠ (TJ7 b).2.1 := by decide +kernel
theorem tyJ7_ok : ∀ k, k < 0 → parseFieldDescriptor (TJ7 k).2.2.1 = some (tyJ7 k) := by decide +kernel
abbrev cJ7_fill_53178 : ByteArray := prog_13_method_103_code
def yJ7_fill_53178 : MethodName := ⟨RJ7, "fill", "([II)V"⟩
def RL : String := "LevelledInkLaw"
abbrev cL_law : ByteArray := code
def yL_law : MethodName := ⟨RL, "law", "([I)Z"⟩
def wsL_law_r1 : List Cond := [Cond.classLink RL 7 RX6, Cond.instantiable RX6 7, Cond.initialized RX6, Cond.classLink RL 10 RX7, Cond.instantiable RX7 26, Cond.initialized RX7, Cond.methodLink RL 9 yX6_init, Cond.instanceMethod yX6_init, Cond.code yX6_init cX6_init 2 none, Cond.methodLink RX6 3 objectInit, Cond.instanceMethod objectInit, Cond.code objectInit ⟨#[0xb1]⟩ 1 none, Cond.classLink RX6 9 RX4, Cond.instantiable RX4 6, Cond.initialized RX4, Cond.fieldLink RX6 12 "LevelledInk" "sheet" "LLevelledInk$Sheet;", Cond.classLink RX6 18 RX2, Cond.fieldLink RX6 20 "LevelledInk" "cards" "[LLevelledInk$Card;", Cond.classLink RX6 24 RX3, Cond.instantiable RX3 6, Cond.initialized RX3, Cond.fieldLink RX6 27 "LevelledInk" "shears" "LLevelledInk$Shears;", Cond.classLink RX6 31 RX5, Cond.instantiable RX5 7]
def wsL_law_r2 : List Cond := [Cond.initialized RX5, Cond.fieldLink RX6 34 "LevelledInk" "strokes" "LLevelledInk$Strokes;", Cond.classLink RX6 38 RX0, Cond.instantiable RX0 7, Cond.initialized RX0, Cond.fieldLink RX6 41 "LevelledInk" "line" "LLevelledInk$Baseline;", Cond.arrayClass .int, Cond.fieldLink RX6 45 "LevelledInk" "slides" "[I", Cond.fieldLink RX6 49 "LevelledInk" "lastFault" "I", Cond.instantiable RX2 3, Cond.initialized RX2, Cond.instanceMethod yX4_init, Cond.code yX4_init cX4_init 1 none, Cond.methodLink RX4 3 objectInit, Cond.fieldLink RX4 9 "LevelledInk$Sheet" "columns" "[I", Cond.fieldLink RX4 15 "LevelledInk$Sheet" "fresh" "[I", Cond.classLink RX4 18 "[[I", Cond.fieldLink RX4 20 "LevelledInk$Sheet" "earlier" "[[I", Cond.fieldLink RX4 23 "LevelledInk$Sheet" "width" "I", Cond.fieldLink RX4 27 "LevelledInk$Sheet" "kept" "I", Cond.fieldLink RX4 30 "LevelledInk$Sheet" "next" "I", Cond.instanceMethod yX3_init, Cond.code yX3_init cX3_init 1 none, Cond.methodLink RX3 3 objectInit]
def wsL_law_r3 : List Cond := [Cond.fieldLink RX3 11 "LevelledInk$Shears" "counts" "[I", Cond.fieldLink RX3 15 "LevelledInk$Shears" "order" "[I", Cond.arrayClass .boolean, Cond.fieldLink RX3 18 "LevelledInk$Shears" "seen" "[Z", Cond.fieldLink RX3 22 "LevelledInk$Shears" "attempts" "I", Cond.fieldLink RX3 26 "LevelledInk$Shears" "sharpest" "I", Cond.fieldLink RX3 29 "LevelledInk$Shears" "greatest" "I", Cond.instanceMethod yX5_init, Cond.code yX5_init cX5_init 1 none, Cond.methodLink RX5 3 objectInit, Cond.fieldLink RX5 11 "LevelledInk$Strokes" "rows" "[I", Cond.fieldLink RX5 15 "LevelledInk$Strokes" "firsts" "[I", Cond.fieldLink RX5 18 "LevelledInk$Strokes" "lasts" "[I", Cond.fieldLink RX5 21 "LevelledInk$Strokes" "links" "[I", Cond.fieldLink RX5 24 "LevelledInk$Strokes" "numbers" "[I", Cond.fieldLink RX5 27 "LevelledInk$Strokes" "runs" "I", Cond.fieldLink RX5 31 "LevelledInk$Strokes" "count" "I", Cond.instanceMethod yX0_init, Cond.code yX0_init cX0_init 1 none, Cond.methodLink RX0 3 objectInit, Cond.classLink RX0 9 "[[I", Cond.fieldLink RX0 11 "LevelledInk$Baseline" "reach" "[[I", Cond.fieldLink RX0 16 "LevelledInk$Baseline" "rows" "[I", Cond.fieldLink RX0 20 "LevelledInk$Baseline" "width" "I"]
def wsL_law_r4 : List Cond := [Cond.fieldLink RX0 24 "LevelledInk$Baseline" "first" "I", Cond.fieldLink RX0 27 "LevelledInk$Baseline" "length" "I", Cond.fieldLink RX0 30 "LevelledInk$Baseline" "firstRow" "I", Cond.fieldLink RX0 33 "LevelledInk$Baseline" "sum" "I", Cond.instanceMethod yX2_init, Cond.code yX2_init cX2_init 1 none, Cond.methodLink RX2 3 objectInit, Cond.fieldLink RX2 9 "LevelledInk$Card" "places" "[I", Cond.fieldLink RX2 15 "LevelledInk$Card" "sort" "I", Cond.fieldLink RX2 19 "LevelledInk$Card" "length" "I", Cond.methodLink RL 12 yX7_init, Cond.instanceMethod yX7_init, Cond.code yX7_init cX7_init 1 none, Cond.methodLink RX7 1 objectInit, Cond.fieldLink RX7 7 "LevelledInkModel" "width" "I", Cond.fieldLink RX7 13 "LevelledInkModel" "ink" "[Z", Cond.fieldLink RX7 17 "LevelledInkModel" "sortOf" "[I", Cond.fieldLink RX7 21 "LevelledInkModel" "longOf" "[I", Cond.fieldLink RX7 24 "LevelledInkModel" "card" "[I", Cond.fieldLink RX7 27 "LevelledInkModel" "counts" "[I", Cond.fieldLink RX7 30 "LevelledInkModel" "tryOf" "[I", Cond.fieldLink RX7 33 "LevelledInkModel" "sharpOf" "[I", Cond.fieldLink RX7 36 "LevelledInkModel" "kept" "[Z", Cond.fieldLink RX7 39 "LevelledInkModel" "then" "[Z"]
def wsL_law_r5 : List Cond := [Cond.fieldLink RX7 42 "LevelledInkModel" "runRow" "[I", Cond.fieldLink RX7 45 "LevelledInkModel" "runFrom" "[I", Cond.fieldLink RX7 48 "LevelledInkModel" "runLong" "[I", Cond.fieldLink RX7 51 "LevelledInkModel" "strokeOf" "[I", Cond.fieldLink RX7 54 "LevelledInkModel" "leads" "[I", Cond.fieldLink RX7 57 "LevelledInkModel" "footOf" "[I", Cond.fieldLink RX7 60 "LevelledInkModel" "curls" "[I", Cond.methodLink RL 13 yX6_page, Cond.instanceMethod yX6_page, Cond.selects RX6 yX6_page yX6_page, Cond.code yX6_page cX6_page 3 (some .int), Cond.methodLink RX6 54 yX4_ink, Cond.instanceMethod yX4_ink, Cond.selects RX4 yX4_ink yX4_ink, Cond.code yX4_ink cX4_ink 3 (some .int), Cond.methodLink RX4 62 yJ6_bitCount_0f7a4, Cond.static yJ6_bitCount_0f7a4, Cond.initialized RJ6, Cond.code yJ6_bitCount_0f7a4 cJ6_bitCount_0f7a4 1 (some .int), Cond.constant RJ6 265 (1431655765), Cond.constant RJ6 266 (858993459), Cond.constant RJ6 267 (252645135), Cond.methodLink RX6 58 yX4_renew, Cond.instanceMethod yX4_renew]
def wsL_law_r6 : List Cond := [Cond.selects RX4 yX4_renew yX4_renew, Cond.code yX4_renew cX4_renew 2 none, Cond.methodLink RX4 44 Lib.Math.min.name, Cond.static Lib.Math.min.name, Cond.initialized "java/lang/Math", Cond.code Lib.Math.min.name Lib.Math.min.code 2 (some .int), Cond.methodLink RX4 50 Lib.Math.max.name, Cond.static Lib.Math.max.name, Cond.code Lib.Math.max.name Lib.Math.max.code 2 (some .int), Cond.methodLink RX4 53 yJ7_fill_53178, Cond.static yJ7_fill_53178, Cond.initialized RJ7, Cond.code yJ7_fill_53178 cJ7_fill_53178 4 none, Cond.methodLink RX4 59 yX4_forgetMoves, Cond.instanceMethod yX4_forgetMoves, Cond.selects RX4 yX4_forgetMoves yX4_forgetMoves, Cond.code yX4_forgetMoves cX4_forgetMoves 1 none, Cond.methodLink RL 17 yX7_page, Cond.instanceMethod yX7_page, Cond.selects RX7 yX7_page yX7_page, Cond.code yX7_page cX7_page 4 (some .int), Cond.fieldLink RX7 81 "LevelledInkModel" "moves" "I", Cond.methodLink RX7 66 yX7_within, Cond.static yX7_within]
def wsL_law_r7 : List Cond := [Cond.code yX7_within cX7_within 3 (some .boolean), Cond.methodLink RX7 77 yX7_inkOf, Cond.instanceMethod yX7_inkOf, Cond.selects RX7 yX7_inkOf yX7_inkOf, Cond.code yX7_inkOf cX7_inkOf 3 (some .int), Cond.methodLink RL 18 yX6_dot, Cond.instanceMethod yX6_dot, Cond.selects RX6 yX6_dot yX6_dot, Cond.code yX6_dot cX6_dot 5 (some .int), Cond.methodLink RX6 62 yX4_hasColumn, Cond.instanceMethod yX4_hasColumn, Cond.selects RX4 yX4_hasColumn yX4_hasColumn, Cond.code yX4_hasColumn cX4_hasColumn 2 (some .boolean), Cond.methodLink RX6 66 yX6_isRow, Cond.static yX6_isRow, Cond.code yX6_isRow cX6_isRow 1 (some .boolean), Cond.methodLink RX6 69 yX4_inked, Cond.instanceMethod yX4_inked, Cond.selects RX4 yX4_inked yX4_inked, Cond.code yX4_inked cX4_inked 3 (some .boolean), Cond.methodLink RX4 40 yX4_dots, Cond.instanceMethod yX4_dots, Cond.selects RX4 yX4_dots yX4_dots, Cond.code yX4_dots cX4_dots 2 (some .int)]
def wsL_law_r8 : List Cond := [Cond.methodLink RX4 33 yX4_hasColumn, Cond.methodLink RX6 73 yX4_forgetMoves, Cond.methodLink RX6 76 yX4_draw, Cond.instanceMethod yX4_draw, Cond.selects RX4 yX4_draw yX4_draw, Cond.code yX4_draw cX4_draw 5 none, Cond.methodLink RL 22 yX7_dot, Cond.instanceMethod yX7_dot, Cond.selects RX7 yX7_dot yX7_dot, Cond.code yX7_dot cX7_dot 5 (some .int), Cond.methodLink RX7 70 yX7_isColumn, Cond.instanceMethod yX7_isColumn, Cond.selects RX7 yX7_isColumn yX7_isColumn, Cond.code yX7_isColumn cX7_isColumn 2 (some .boolean), Cond.methodLink RX7 74 yX7_isRow, Cond.static yX7_isRow, Cond.code yX7_isRow cX7_isRow 1 (some .boolean), Cond.methodLink RL 23 yX6_column, Cond.instanceMethod yX6_column, Cond.selects RX6 yX6_column yX6_column, Cond.code yX6_column cX6_column 2 (some .long), Cond.constantLong RX6 84 (4294967295), Cond.constantLong RX6 86 (-9223372036854775808), Cond.methodLink RX6 80 yX4_dots]
def wsL_law_r9 : List Cond := [Cond.methodLink RL 27 yX7_column, Cond.instanceMethod yX7_column, Cond.selects RX7 yX7_column yX7_column, Cond.code yX7_column cX7_column 5 (some .long), Cond.constantLong RX7 84 (-9223372036854775808), Cond.constantLong RX7 86 (2), Cond.methodLink RX7 88 yX7_isDot, Cond.instanceMethod yX7_isDot, Cond.selects RX7 yX7_isDot yX7_isDot, Cond.code yX7_isDot cX7_isDot 3 (some .boolean), Cond.methodLink RL 28 yX6_row, Cond.instanceMethod yX6_row, Cond.selects RX6 yX6_row yX6_row, Cond.code yX6_row cX6_row 5 (some .int), Cond.methodLink RX6 88 yX6_isCard, Cond.static yX6_isCard, Cond.code yX6_isCard cX6_isCard 1 (some .boolean), Cond.methodLink RX6 91 yX2_isNothing, Cond.instanceMethod yX2_isNothing, Cond.selects RX2 yX2_isNothing yX2_isNothing, Cond.code yX2_isNothing cX2_isNothing 1 (some .boolean), Cond.methodLink RX6 95 yX6_failed, Cond.instanceMethod yX6_failed, Cond.selects RX6 yX6_failed yX6_failed]
def wsL_law_r10 : List Cond := [Cond.code yX6_failed cX6_failed 2 (some .int), Cond.methodLink RX6 98 yX4_width, Cond.instanceMethod yX4_width, Cond.selects RX4 yX4_width yX4_width, Cond.code yX4_width cX4_width 1 (some .int), Cond.methodLink RX6 101 yX2_hasPlace, Cond.instanceMethod yX2_hasPlace, Cond.selects RX2 yX2_hasPlace yX2_hasPlace, Cond.code yX2_hasPlace cX2_hasPlace 2 (some .boolean), Cond.methodLink RX6 104 yX2_number, Cond.instanceMethod yX2_number, Cond.selects RX2 yX2_number yX2_number, Cond.code yX2_number cX2_number 2 (some .int), Cond.methodLink RX2 37 yX2_hasPlace, Cond.methodLink RX6 107 yX4_inkOfRow, Cond.instanceMethod yX4_inkOfRow, Cond.selects RX4 yX4_inkOfRow yX4_inkOfRow, Cond.code yX4_inkOfRow cX4_inkOfRow 4 (some .int), Cond.methodLink RX4 67 yX4_inked, Cond.methodLink RL 32 yX7_row, Cond.instanceMethod yX7_row, Cond.selects RX7 yX7_row yX7_row, Cond.code yX7_row cX7_row 6 (some .int), Cond.methodLink RX7 93 yX7_isCard]
def wsL_law_r11 : List Cond := [Cond.static yX7_isCard, Cond.code yX7_isCard cX7_isCard 1 (some .boolean), Cond.methodLink RX7 96 yX7_refused, Cond.instanceMethod yX7_refused, Cond.selects RX7 yX7_refused yX7_refused, Cond.code yX7_refused cX7_refused 2 (some .int), Cond.fieldLink RX7 63 "LevelledInkModel" "fault" "I", Cond.methodLink RX7 100 yX7_fails, Cond.instanceMethod yX7_fails, Cond.selects RX7 yX7_fails yX7_fails, Cond.code yX7_fails cX7_fails 2 (some .int), Cond.methodLink RL 33 yX6_take, Cond.instanceMethod yX6_take, Cond.selects RX6 yX6_take yX6_take, Cond.code yX6_take cX6_take 5 (some .int), Cond.methodLink RX6 110 yX2_renew, Cond.instanceMethod yX2_renew, Cond.selects RX2 yX2_renew yX2_renew, Cond.code yX2_renew cX2_renew 3 none, Cond.methodLink RX2 22 Lib.Math.min.name, Cond.methodLink RX2 28 Lib.Math.max.name, Cond.methodLink RX2 31 yJ7_fill_53178, Cond.methodLink RX6 113 yX2_write, Cond.instanceMethod yX2_write]
def wsL_law_r12 : List Cond := [Cond.selects RX2 yX2_write yX2_write, Cond.code yX2_write cX2_write 3 none, Cond.methodLink RX2 41 yX2_cut, Cond.instanceMethod yX2_cut, Cond.selects RX2 yX2_cut yX2_cut, Cond.code yX2_cut cX2_cut 2 (some .int), Cond.methodLink RL 36 yX7_take, Cond.instanceMethod yX7_take, Cond.selects RX7 yX7_take yX7_take, Cond.code yX7_take cX7_take 5 (some .int), Cond.methodLink RX7 103 yX7_clears, Cond.instanceMethod yX7_clears, Cond.selects RX7 yX7_clears yX7_clears, Cond.code yX7_clears cX7_clears 5 none, Cond.methodLink RL 37 yX6_blank, Cond.instanceMethod yX6_blank, Cond.selects RX6 yX6_blank yX6_blank, Cond.code yX6_blank cX6_blank 4 (some .int), Cond.methodLink RL 40 yX7_blank, Cond.instanceMethod yX7_blank, Cond.selects RX7 yX7_blank yX7_blank, Cond.code yX7_blank cX7_blank 4 (some .int), Cond.methodLink RL 41 yX6_put, Cond.instanceMethod yX6_put]
def wsL_law_r13 : List Cond := [Cond.selects RX6 yX6_put yX6_put, Cond.code yX6_put cX6_put 5 (some .int), Cond.methodLink RX6 116 yX2_faultAt, Cond.instanceMethod yX2_faultAt, Cond.selects RX2 yX2_faultAt yX2_faultAt, Cond.code yX2_faultAt cX2_faultAt 2 (some .int), Cond.methodLink RX2 45 yX2_isNothing, Cond.methodLink RL 44 yX7_put, Cond.instanceMethod yX7_put, Cond.selects RX7 yX7_put yX7_put, Cond.code yX7_put cX7_put 5 (some .int), Cond.methodLink RX7 107 yX7_against, Cond.instanceMethod yX7_against, Cond.selects RX7 yX7_against yX7_against, Cond.code yX7_against cX7_against 3 (some .int), Cond.methodLink RX7 111 yX7_cut, Cond.static yX7_cut, Cond.code yX7_cut cX7_cut 2 (some .int), Cond.constant RX7 92 (65535), Cond.methodLink RL 45 yX6_get, Cond.instanceMethod yX6_get, Cond.selects RX6 yX6_get yX6_get, Cond.code yX6_get cX6_get 3 (some .long), Cond.methodLink RL 49 yX7_get]
def wsL_law_r14 : List Cond := [Cond.instanceMethod yX7_get, Cond.selects RX7 yX7_get yX7_get, Cond.code yX7_get cX7_get 3 (some .long), Cond.methodLink RL 50 yX6_copy, Cond.instanceMethod yX6_copy, Cond.selects RX6 yX6_copy yX6_copy, Cond.code yX6_copy cX6_copy 7 (some .int), Cond.methodLink RX6 119 yX2_faultOfCopy, Cond.instanceMethod yX2_faultOfCopy, Cond.selects RX2 yX2_faultOfCopy yX2_faultOfCopy, Cond.code yX2_faultOfCopy cX2_faultOfCopy 5 (some .int), Cond.methodLink RX2 49 yX2_hasPart, Cond.instanceMethod yX2_hasPart, Cond.selects RX2 yX2_hasPart yX2_hasPart, Cond.code yX2_hasPart cX2_hasPart 3 (some .boolean), Cond.methodLink RX6 123 yX2_copyTo, Cond.instanceMethod yX2_copyTo, Cond.selects RX2 yX2_copyTo yX2_copyTo, Cond.code yX2_copyTo cX2_copyTo 5 none, Cond.methodLink RX2 53 arraycopyName, Cond.native arraycopyName, Cond.static arraycopyName, Cond.initialized "java/lang/System", Cond.methodLink RL 54 yX7_copy]
def wsL_law_r15 : List Cond := [Cond.instanceMethod yX7_copy, Cond.selects RX7 yX7_copy yX7_copy, Cond.code yX7_copy cX7_copy 8 (some .int), Cond.methodLink RL 55 yX6_lose, Cond.instanceMethod yX6_lose, Cond.selects RX6 yX6_lose yX6_lose, Cond.code yX6_lose cX6_lose 3 (some .int), Cond.methodLink RX6 127 yX2_drop, Cond.instanceMethod yX2_drop, Cond.selects RX2 yX2_drop yX2_drop, Cond.code yX2_drop cX2_drop 1 none, Cond.methodLink RL 58 yX7_lose, Cond.instanceMethod yX7_lose, Cond.selects RX7 yX7_lose yX7_lose, Cond.code yX7_lose cX7_lose 3 (some .int), Cond.methodLink RL 59 yX6_shift, Cond.instanceMethod yX6_shift, Cond.selects RX6 yX6_shift yX6_shift, Cond.code yX6_shift cX6_shift 5 (some .int), Cond.methodLink RX6 130 yX6_isAxis, Cond.static yX6_isAxis, Cond.code yX6_isAxis cX6_isAxis 1 (some .boolean), Cond.methodLink RX6 133 yX6_isShear, Cond.static yX6_isShear]
def wsL_law_r16 : List Cond := [Cond.code yX6_isShear cX6_isShear 1 (some .boolean), Cond.methodLink RX6 136 yX6_shiftOf, Cond.static yX6_shiftOf, Cond.code yX6_shiftOf cX6_shiftOf 4 (some .int), Cond.methodLink RX6 255 yJ9_floorDiv_7cf53, Cond.static yJ9_floorDiv_7cf53, Cond.initialized RJ9, Cond.code yJ9_floorDiv_7cf53 cJ9_floorDiv_7cf53 3 (some .int), Cond.methodLink RL 62 yX7_shift, Cond.instanceMethod yX7_shift, Cond.selects RX7 yX7_shift yX7_shift, Cond.code yX7_shift cX7_shift 5 (some .int), Cond.methodLink RX7 124 yX7_isAxis, Cond.static yX7_isAxis, Cond.code yX7_isAxis cX7_isAxis 1 (some .boolean), Cond.methodLink RX7 127 yX7_isShear, Cond.static yX7_isShear, Cond.code yX7_isShear cX7_isShear 1 (some .boolean), Cond.methodLink RX7 120 yX7_shiftOf, Cond.static yX7_shiftOf, Cond.code yX7_shiftOf cX7_shiftOf 3 (some .int), Cond.methodLink RX7 117 yX7_rounded, Cond.static yX7_rounded, Cond.code yX7_rounded cX7_rounded 2 (some .int)]
def wsL_law_r17 : List Cond := [Cond.methodLink RX7 114 yX7_down, Cond.static yX7_down, Cond.code yX7_down cX7_down 2 (some .int), Cond.methodLink RL 63 yX6_profile, Cond.instanceMethod yX6_profile, Cond.selects RX6 yX6_profile yX6_profile, Cond.code yX6_profile cX6_profile 4 (some .int), Cond.methodLink RX6 140 yX3_countAt, Cond.instanceMethod yX3_countAt, Cond.selects RX3 yX3_countAt yX3_countAt, Cond.code yX3_countAt cX3_countAt 5 (some .int), Cond.methodLink RX3 32 yX3_tally, Cond.instanceMethod yX3_tally, Cond.selects RX3 yX3_tally yX3_tally, Cond.code yX3_tally cX3_tally 7 none, Cond.methodLink RX3 60 yJ7_fill_53178, Cond.methodLink RX3 66 yX4_width, Cond.methodLink RX3 72 yX4_dots, Cond.methodLink RX3 79 yX3_countIn, Cond.instanceMethod yX3_countIn, Cond.selects RX3 yX3_countIn yX3_countIn, Cond.code yX3_countIn cX3_countIn 2 none, Cond.methodLink RL 66 yX7_profile, Cond.instanceMethod yX7_profile]
def wsL_law_r18 : List Cond := [Cond.selects RX7 yX7_profile yX7_profile, Cond.code yX7_profile cX7_profile 4 (some .int), Cond.methodLink RX7 134 yX7_findProfile, Cond.instanceMethod yX7_findProfile, Cond.selects RX7 yX7_findProfile yX7_findProfile, Cond.code yX7_findProfile cX7_findProfile 5 none, Cond.methodLink RX7 130 yX7_sheared, Cond.static yX7_sheared, Cond.code yX7_sheared cX7_sheared 4 (some .int), Cond.methodLink RL 67 yX6_sharp, Cond.instanceMethod yX6_sharp, Cond.selects RX6 yX6_sharp yX6_sharp, Cond.code yX6_sharp cX6_sharp 3 (some .int), Cond.methodLink RX6 144 yX3_sharpness, Cond.instanceMethod yX3_sharpness, Cond.selects RX3 yX3_sharpness yX3_sharpness, Cond.code yX3_sharpness cX3_sharpness 10 (some .int), Cond.methodLink RL 70 yX7_sharp, Cond.instanceMethod yX7_sharp, Cond.selects RX7 yX7_sharp yX7_sharp, Cond.code yX7_sharp cX7_sharp 3 (some .int), Cond.methodLink RX7 138 yX7_sharpness, Cond.instanceMethod yX7_sharpness, Cond.selects RX7 yX7_sharpness yX7_sharpness]
def wsL_law_r19 : List Cond := [Cond.code yX7_sharpness cX7_sharpness 6 (some .int), Cond.methodLink RL 71 yX6_best, Cond.instanceMethod yX6_best, Cond.selects RX6 yX6_best yX6_best, Cond.code yX6_best cX6_best 2 (some .int), Cond.methodLink RX6 148 yX3_tryAll, Cond.instanceMethod yX3_tryAll, Cond.selects RX3 yX3_tryAll yX3_tryAll, Cond.code yX3_tryAll cX3_tryAll 4 none, Cond.methodLink RX3 36 yX3_begin, Cond.instanceMethod yX3_begin, Cond.selects RX3 yX3_begin yX3_begin, Cond.code yX3_begin cX3_begin 2 none, Cond.methodLink RX3 39 yX3_attemptAt, Cond.instanceMethod yX3_attemptAt, Cond.selects RX3 yX3_attemptAt yX3_attemptAt, Cond.code yX3_attemptAt cX3_attemptAt 5 none, Cond.methodLink RX3 46 yX3_sharpness, Cond.methodLink RX3 50 yX3_isBetter, Cond.instanceMethod yX3_isBetter, Cond.selects RX3 yX3_isBetter yX3_isBetter, Cond.code yX3_isBetter cX3_isBetter 3 (some .boolean), Cond.methodLink RX3 54 Lib.Math.abs.name, Cond.static Lib.Math.abs.name]
def wsL_law_r20 : List Cond := [Cond.code Lib.Math.abs.name Lib.Math.abs.code 1 (some .int), Cond.methodLink RX6 152 yX3_sharpest, Cond.instanceMethod yX3_sharpest, Cond.selects RX3 yX3_sharpest yX3_sharpest, Cond.code yX3_sharpest cX3_sharpest 1 (some .int), Cond.methodLink RL 74 yX7_best, Cond.instanceMethod yX7_best, Cond.selects RX7 yX7_best yX7_best, Cond.code yX7_best cX7_best 3 (some .int), Cond.fieldLink RX7 144 "LevelledInkModel" "tries" "I", Cond.methodLink RX7 151 yX7_tryIt, Cond.instanceMethod yX7_tryIt, Cond.selects RX7 yX7_tryIt yX7_tryIt, Cond.code yX7_tryIt cX7_tryIt 5 none, Cond.methodLink RX7 154 yX7_bestTried, Cond.instanceMethod yX7_bestTried, Cond.selects RX7 yX7_bestTried yX7_bestTried, Cond.code yX7_bestTried cX7_bestTried 3 (some .int), Cond.methodLink RX7 147 yX7_isAhead, Cond.static yX7_isAhead, Cond.code yX7_isAhead cX7_isAhead 4 (some .boolean), Cond.methodLink RX7 141 yX7_far, Cond.static yX7_far, Cond.code yX7_far cX7_far 1 (some .int)]
def wsL_law_r21 : List Cond := [Cond.methodLink RL 75 yX6_found, Cond.instanceMethod yX6_found, Cond.selects RX6 yX6_found yX6_found, Cond.code yX6_found cX6_found 2 (some .int), Cond.methodLink RX6 155 yX3_search, Cond.instanceMethod yX3_search, Cond.selects RX3 yX3_search yX3_search, Cond.code yX3_search cX3_search 5 none, Cond.methodLink RL 78 yX7_found, Cond.instanceMethod yX7_found, Cond.selects RX7 yX7_found yX7_found, Cond.code yX7_found cX7_found 2 (some .int), Cond.methodLink RX7 157 yX7_search, Cond.instanceMethod yX7_search, Cond.selects RX7 yX7_search yX7_search, Cond.code yX7_search cX7_search 4 none, Cond.methodLink RL 79 yX6_tried, Cond.instanceMethod yX6_tried, Cond.selects RX6 yX6_tried yX6_tried, Cond.code yX6_tried cX6_tried 3 (some .int), Cond.methodLink RX6 158 yX3_attempts, Cond.instanceMethod yX3_attempts, Cond.selects RX3 yX3_attempts yX3_attempts, Cond.code yX3_attempts cX3_attempts 1 (some .int)]
def wsL_law_r22 : List Cond := [Cond.methodLink RX6 161 yX3_attempt, Cond.instanceMethod yX3_attempt, Cond.selects RX3 yX3_attempt yX3_attempt, Cond.code yX3_attempt cX3_attempt 2 (some .int), Cond.methodLink RL 82 yX7_tried, Cond.instanceMethod yX7_tried, Cond.selects RX7 yX7_tried yX7_tried, Cond.code yX7_tried cX7_tried 3 (some .int), Cond.methodLink RL 83 yX6_shear, Cond.instanceMethod yX6_shear, Cond.selects RX6 yX6_shear yX6_shear, Cond.code yX6_shear cX6_shear 5 (some .int), Cond.methodLink RX6 164 yX4_slideColumns, Cond.instanceMethod yX4_slideColumns, Cond.selects RX4 yX4_slideColumns yX4_slideColumns, Cond.code yX4_slideColumns cX4_slideColumns 5 (some .int), Cond.methodLink RX4 80 yX4_raised, Cond.static yX4_raised, Cond.code yX4_raised cX4_raised 2 (some .int), Cond.methodLink RX4 83 yX4_finishMove, Cond.instanceMethod yX4_finishMove, Cond.selects RX4 yX4_finishMove yX4_finishMove, Cond.code yX4_finishMove cX4_finishMove 1 none, Cond.methodLink RX4 74 arraycopyName]
def wsL_law_r23 : List Cond := [Cond.methodLink RX6 168 yX4_slideRows, Cond.instanceMethod yX4_slideRows, Cond.selects RX4 yX4_slideRows yX4_slideRows, Cond.code yX4_slideRows cX4_slideRows 6 (some .int), Cond.methodLink RL 86 yX7_shear, Cond.instanceMethod yX7_shear, Cond.selects RX7 yX7_shear yX7_shear, Cond.code yX7_shear cX7_shear 3 (some .int), Cond.methodLink RX7 170 yX7_moveAll, Cond.instanceMethod yX7_moveAll, Cond.selects RX7 yX7_moveAll yX7_moveAll, Cond.code yX7_moveAll cX7_moveAll 6 (some .int), Cond.methodLink RX7 164 yX7_goesTo, Cond.instanceMethod yX7_goesTo, Cond.selects RX7 yX7_goesTo yX7_goesTo, Cond.code yX7_goesTo cX7_goesTo 7 (some .int), Cond.methodLink RX7 161 yX7_curlOf, Cond.instanceMethod yX7_curlOf, Cond.selects RX7 yX7_curlOf yX7_curlOf, Cond.code yX7_curlOf cX7_curlOf 2 (some .int), Cond.methodLink RX7 167 yX7_keeps, Cond.instanceMethod yX7_keeps, Cond.selects RX7 yX7_keeps yX7_keeps, Cond.code yX7_keeps cX7_keeps 2 none]
def wsL_law_r24 : List Cond := [Cond.methodLink RL 87 yX6_run, Cond.instanceMethod yX6_run, Cond.selects RX6 yX6_run yX6_run, Cond.code yX6_run cX6_run 3 (some .int), Cond.methodLink RX6 171 yX5_find, Cond.instanceMethod yX5_find, Cond.selects RX5 yX5_find yX5_find, Cond.code yX5_find cX5_find 5 none, Cond.methodLink RX5 34 yX5_addRuns, Cond.instanceMethod yX5_addRuns, Cond.selects RX5 yX5_addRuns yX5_addRuns, Cond.code yX5_addRuns cX5_addRuns 6 none, Cond.methodLink RX5 69 yX4_width, Cond.methodLink RX5 75 yX4_inked, Cond.methodLink RX5 38 yX5_linkRows, Cond.instanceMethod yX5_linkRows, Cond.selects RX5 yX5_linkRows yX5_linkRows, Cond.code yX5_linkRows cX5_linkRows 5 none, Cond.methodLink RX5 79 yX5_join, Cond.instanceMethod yX5_join, Cond.selects RX5 yX5_join yX5_join, Cond.code yX5_join cX5_join 5 none, Cond.methodLink RX5 66 Lib.Math.max.name, Cond.methodLink RX5 60 Lib.Math.min.name]
def wsL_law_r25 : List Cond := [Cond.methodLink RX5 82 yX5_firstRun, Cond.instanceMethod yX5_firstRun, Cond.selects RX5 yX5_firstRun yX5_firstRun, Cond.code yX5_firstRun cX5_firstRun 4 (some .int), Cond.methodLink RX5 42 yX5_numberStrokes, Cond.instanceMethod yX5_numberStrokes, Cond.selects RX5 yX5_numberStrokes yX5_numberStrokes, Cond.code yX5_numberStrokes cX5_numberStrokes 2 none, Cond.methodLink RX6 175 yX5_runs, Cond.instanceMethod yX5_runs, Cond.selects RX5 yX5_runs yX5_runs, Cond.code yX5_runs cX5_runs 1 (some .int), Cond.methodLink RX6 178 yX5_rowOf, Cond.instanceMethod yX5_rowOf, Cond.selects RX5 yX5_rowOf yX5_rowOf, Cond.code yX5_rowOf cX5_rowOf 2 (some .int), Cond.methodLink RX5 45 yX5_isRun, Cond.instanceMethod yX5_isRun, Cond.selects RX5 yX5_isRun yX5_isRun, Cond.code yX5_isRun cX5_isRun 2 (some .boolean), Cond.methodLink RX6 181 yX5_firstOf, Cond.instanceMethod yX5_firstOf, Cond.selects RX5 yX5_firstOf yX5_firstOf, Cond.code yX5_firstOf cX5_firstOf 2 (some .int)]
def wsL_law_r26 : List Cond := [Cond.methodLink RX6 184 yX5_dotsOf, Cond.instanceMethod yX5_dotsOf, Cond.selects RX5 yX5_dotsOf yX5_dotsOf, Cond.code yX5_dotsOf cX5_dotsOf 2 (some .int), Cond.methodLink RX6 187 yX5_strokeOf, Cond.instanceMethod yX5_strokeOf, Cond.selects RX5 yX5_strokeOf yX5_strokeOf, Cond.code yX5_strokeOf cX5_strokeOf 2 (some .int), Cond.methodLink RL 90 yX7_run, Cond.instanceMethod yX7_run, Cond.selects RX7 yX7_run yX7_run, Cond.code yX7_run cX7_run 3 (some .int), Cond.fieldLink RX7 173 "LevelledInkModel" "runs" "I", Cond.methodLink RX7 188 yX7_findStrokes, Cond.instanceMethod yX7_findStrokes, Cond.selects RX7 yX7_findStrokes yX7_findStrokes, Cond.code yX7_findStrokes cX7_findStrokes 2 none, Cond.fieldLink RX7 182 "LevelledInkModel" "strokes" "I", Cond.methodLink RX7 179 yX7_findRuns, Cond.instanceMethod yX7_findRuns, Cond.selects RX7 yX7_findRuns yX7_findRuns, Cond.code yX7_findRuns cX7_findRuns 3 none, Cond.methodLink RX7 185 yX7_spreads, Cond.instanceMethod yX7_spreads]
def wsL_law_r27 : List Cond := [Cond.selects RX7 yX7_spreads yX7_spreads, Cond.code yX7_spreads cX7_spreads 5 none, Cond.methodLink RX7 176 yX7_areTouching, Cond.instanceMethod yX7_areTouching, Cond.selects RX7 yX7_areTouching yX7_areTouching, Cond.code yX7_areTouching cX7_areTouching 5 (some .boolean), Cond.methodLink RL 91 yX6_stroke, Cond.instanceMethod yX6_stroke, Cond.selects RX6 yX6_stroke yX6_stroke, Cond.code yX6_stroke cX6_stroke 3 (some .int), Cond.methodLink RX6 190 yX5_count, Cond.instanceMethod yX5_count, Cond.selects RX5 yX5_count yX5_count, Cond.code yX5_count cX5_count 1 (some .int), Cond.methodLink RX6 193 yX5_dotsTogether, Cond.instanceMethod yX5_dotsTogether, Cond.selects RX5 yX5_dotsTogether yX5_dotsTogether, Cond.code yX5_dotsTogether cX5_dotsTogether 4 (some .int), Cond.methodLink RX5 49 yX5_dotsOf, Cond.methodLink RX6 196 yX5_runsTogether, Cond.instanceMethod yX5_runsTogether, Cond.selects RX5 yX5_runsTogether yX5_runsTogether, Cond.code yX5_runsTogether cX5_runsTogether 4 (some .int), Cond.methodLink RX6 199 yX5_leastRow]
def wsL_law_r28 : List Cond := [Cond.instanceMethod yX5_leastRow, Cond.selects RX5 yX5_leastRow yX5_leastRow, Cond.code yX5_leastRow cX5_leastRow 2 (some .int), Cond.methodLink RX5 53 yX5_least, Cond.instanceMethod yX5_least, Cond.selects RX5 yX5_least yX5_least, Cond.code yX5_least cX5_least 5 (some .int), Cond.methodLink RX6 202 yX5_greatestRow, Cond.instanceMethod yX5_greatestRow, Cond.selects RX5 yX5_greatestRow yX5_greatestRow, Cond.code yX5_greatestRow cX5_greatestRow 2 (some .int), Cond.methodLink RX5 57 yX5_greatest, Cond.instanceMethod yX5_greatest, Cond.selects RX5 yX5_greatest yX5_greatest, Cond.code yX5_greatest cX5_greatest 5 (some .int), Cond.methodLink RX6 205 yX5_leastColumn, Cond.instanceMethod yX5_leastColumn, Cond.selects RX5 yX5_leastColumn yX5_leastColumn, Cond.code yX5_leastColumn cX5_leastColumn 2 (some .int), Cond.methodLink RX6 208 yX5_greatestColumn, Cond.instanceMethod yX5_greatestColumn, Cond.selects RX5 yX5_greatestColumn yX5_greatestColumn, Cond.code yX5_greatestColumn cX5_greatestColumn 2 (some .int), Cond.methodLink RL 94 yX7_stroke]
def wsL_law_r29 : List Cond := [Cond.instanceMethod yX7_stroke, Cond.selects RX7 yX7_stroke yX7_stroke, Cond.code yX7_stroke cX7_stroke 11 (some .int), Cond.methodLink RL 95 yX6_baseline, Cond.instanceMethod yX6_baseline, Cond.selects RX6 yX6_baseline yX6_baseline, Cond.code yX6_baseline cX6_baseline 2 (some .int), Cond.methodLink RX6 211 yX0_find, Cond.instanceMethod yX0_find, Cond.selects RX0 yX0_find yX0_find, Cond.code yX0_find cX0_find 3 none, Cond.methodLink RX0 41 Lib.Math.min.name, Cond.methodLink RX0 36 yX4_width, Cond.methodLink RX0 47 yX4_feet, Cond.instanceMethod yX4_feet, Cond.selects RX4 yX4_feet yX4_feet, Cond.code yX4_feet cX4_feet 2 (some .int), Cond.methodLink RX0 51 yX0_measure, Cond.instanceMethod yX0_measure, Cond.selects RX0 yX0_measure yX0_measure, Cond.code yX0_measure cX0_measure 5 none, Cond.methodLink RX0 80 yX0_lowestOnward, Cond.instanceMethod yX0_lowestOnward, Cond.selects RX0 yX0_lowestOnward yX0_lowestOnward]
def wsL_law_r30 : List Cond := [Cond.code yX0_lowestOnward cX0_lowestOnward 5 (some .int), Cond.methodLink RX0 83 yX0_reachAt, Cond.instanceMethod yX0_reachAt, Cond.selects RX0 yX0_reachAt yX0_reachAt, Cond.code yX0_reachAt cX0_reachAt 3 (some .int), Cond.methodLink RX0 55 yX0_follow, Cond.instanceMethod yX0_follow, Cond.selects RX0 yX0_follow yX0_follow, Cond.code yX0_follow cX0_follow 3 none, Cond.methodLink RX6 212 yX0_length, Cond.instanceMethod yX0_length, Cond.selects RX0 yX0_length yX0_length, Cond.code yX0_length cX0_length 1 (some .int), Cond.methodLink RX6 215 yX0_first, Cond.instanceMethod yX0_first, Cond.selects RX0 yX0_first yX0_first, Cond.code yX0_first cX0_first 1 (some .int), Cond.methodLink RX6 218 yX0_height, Cond.instanceMethod yX0_height, Cond.selects RX0 yX0_height yX0_height, Cond.code yX0_height cX0_height 1 (some .int), Cond.methodLink RL 98 yX7_baseline, Cond.instanceMethod yX7_baseline, Cond.selects RX7 yX7_baseline yX7_baseline]
def wsL_law_r31 : List Cond := [Cond.code yX7_baseline cX7_baseline 2 (some .int), Cond.fieldLink RX7 200 "LevelledInkModel" "manyColumns" "I", Cond.fieldLink RX7 203 "LevelledInkModel" "firstColumn" "I", Cond.methodLink RX7 215 yX7_findBaseline, Cond.instanceMethod yX7_findBaseline, Cond.selects RX7 yX7_findBaseline yX7_findBaseline, Cond.code yX7_findBaseline cX7_findBaseline 5 none, Cond.methodLink RX7 197 yX7_findLeads, Cond.instanceMethod yX7_findLeads, Cond.selects RX7 yX7_findLeads yX7_findLeads, Cond.code yX7_findLeads cX7_findLeads 6 none, Cond.methodLink RX7 191 yX7_leadsAt, Cond.instanceMethod yX7_leadsAt, Cond.selects RX7 yX7_leadsAt yX7_leadsAt, Cond.code yX7_leadsAt cX7_leadsAt 3 (some .int), Cond.methodLink RX7 194 yX7_isFoot, Cond.instanceMethod yX7_isFoot, Cond.selects RX7 yX7_isFoot yX7_isFoot, Cond.code yX7_isFoot cX7_isFoot 3 (some .boolean), Cond.methodLink RX7 206 yX7_lowest, Cond.instanceMethod yX7_lowest, Cond.selects RX7 yX7_lowest yX7_lowest, Cond.code yX7_lowest cX7_lowest 6 (some .int), Cond.methodLink RX7 212 yX7_levelOf]
def wsL_law_r32 : List Cond := [Cond.instanceMethod yX7_levelOf, Cond.selects RX7 yX7_levelOf yX7_levelOf, Cond.code yX7_levelOf cX7_levelOf 1 (some .int), Cond.methodLink RX7 209 yX7_rowsTogether, Cond.instanceMethod yX7_rowsTogether, Cond.selects RX7 yX7_rowsTogether yX7_rowsTogether, Cond.code yX7_rowsTogether cX7_rowsTogether 3 (some .int), Cond.methodLink RL 99 yX6_foot, Cond.instanceMethod yX6_foot, Cond.selects RX6 yX6_foot yX6_foot, Cond.code yX6_foot cX6_foot 2 (some .int), Cond.methodLink RX6 221 yX0_covers, Cond.instanceMethod yX0_covers, Cond.selects RX0 yX0_covers yX0_covers, Cond.code yX0_covers cX0_covers 2 (some .boolean), Cond.methodLink RX6 224 yX0_footRow, Cond.instanceMethod yX0_footRow, Cond.selects RX0 yX0_footRow yX0_footRow, Cond.code yX0_footRow cX0_footRow 2 (some .int), Cond.methodLink RX0 58 yX0_covers, Cond.methodLink RL 102 yX7_foot, Cond.instanceMethod yX7_foot, Cond.selects RX7 yX7_foot yX7_foot, Cond.code yX7_foot cX7_foot 2 (some .int)]
def wsL_law_r33 : List Cond := [Cond.methodLink RL 103 yX6_curl, Cond.instanceMethod yX6_curl, Cond.selects RX6 yX6_curl yX6_curl, Cond.code yX6_curl cX6_curl 2 (some .int), Cond.methodLink RX6 227 yX0_bend, Cond.instanceMethod yX0_bend, Cond.selects RX0 yX0_bend yX0_bend, Cond.code yX0_bend cX0_bend 3 (some .int), Cond.methodLink RX0 62 Lib.Math.max.name, Cond.methodLink RX0 65 yX0_footRow, Cond.methodLink RX0 68 yX0_height, Cond.methodLink RL 106 yX7_curl, Cond.instanceMethod yX7_curl, Cond.selects RX7 yX7_curl yX7_curl, Cond.code yX7_curl cX7_curl 2 (some .int), Cond.methodLink RX7 218 yX7_findCurls, Cond.instanceMethod yX7_findCurls, Cond.selects RX7 yX7_findCurls yX7_findCurls, Cond.code yX7_findCurls cX7_findCurls 4 none, Cond.methodLink RL 107 yX6_mean, Cond.instanceMethod yX6_mean, Cond.selects RX6 yX6_mean yX6_mean, Cond.code yX6_mean cX6_mean 1 (some .long), Cond.methodLink RX6 230 yX0_meanBits]
def wsL_law_r34 : List Cond := [Cond.instanceMethod yX0_meanBits, Cond.selects RX0 yX0_meanBits yX0_meanBits, Cond.code yX0_meanBits cX0_meanBits 1 (some .long), Cond.methodLink RX0 71 yX1_nearestDouble, Cond.static yX1_nearestDouble, Cond.initialized RX1, Cond.code yX1_nearestDouble cX1_nearestDouble 2 (some .long), Cond.methodLink RX1 9 yX1_nearest, Cond.static yX1_nearest, Cond.code yX1_nearest cX1_nearest 15 (some .long), Cond.constantLong RX1 26 (2), Cond.methodLink RX1 22 yX1_packed, Cond.static yX1_packed, Cond.code yX1_packed cX1_packed 5 (some .long), Cond.methodLink RL 111 yX7_mean, Cond.instanceMethod yX7_mean, Cond.selects RX7 yX7_mean yX7_mean, Cond.code yX7_mean cX7_mean 1 (some .long), Cond.methodLink RX7 228 yX7_nearest, Cond.instanceMethod yX7_nearest, Cond.selects RX7 yX7_nearest yX7_nearest, Cond.code yX7_nearest cX7_nearest 10 none, Cond.fieldLink RX7 221 "LevelledInkModel" "power" "I", Cond.fieldLink RX7 224 "LevelledInkModel" "figures" "J"]
def wsL_law_r35 : List Cond := [Cond.methodLink RX7 231 yX7_bits, Cond.instanceMethod yX7_bits, Cond.selects RX7 yX7_bits yX7_bits, Cond.code yX7_bits cX7_bits 5 (some .long), Cond.methodLink RL 112 yX6_rest, Cond.instanceMethod yX6_rest, Cond.selects RX6 yX6_rest yX6_rest, Cond.code yX6_rest cX6_rest 1 (some .long), Cond.methodLink RX6 234 yX1_doubleAboveWhole, Cond.static yX1_doubleAboveWhole, Cond.code yX1_doubleAboveWhole cX1_doubleAboveWhole 8 (some .long), Cond.constantLong RX1 20 (4503599627370496), Cond.methodLink RL 115 yX7_rest, Cond.instanceMethod yX7_rest, Cond.selects RX7 yX7_rest yX7_rest, Cond.code yX7_rest cX7_rest 1 (some .long), Cond.constantLong RX7 235 (4503599627370496), Cond.methodLink RL 116 yX6_slope, Cond.instanceMethod yX6_slope, Cond.selects RX6 yX6_slope yX6_slope, Cond.code yX6_slope cX6_slope 1 (some .int), Cond.methodLink RX6 240 yX0_slopeBits, Cond.instanceMethod yX0_slopeBits, Cond.selects RX0 yX0_slopeBits yX0_slopeBits]
def wsL_law_r36 : List Cond := [Cond.code yX0_slopeBits cX0_slopeBits 6 (some .int), Cond.methodLink RX0 77 yX1_nearestFloat, Cond.static yX1_nearestFloat, Cond.code yX1_nearestFloat cX1_nearestFloat 3 (some .int), Cond.methodLink RX1 13 Lib.MathLoose.abs_long.x, Cond.static Lib.MathLoose.abs_long.x, Cond.code Lib.MathLoose.abs_long.x Lib.MathLoose.abs_long.code 2 (some .long), Cond.constant RX1 19 (-2147483648), Cond.methodLink RL 120 yX7_slope, Cond.instanceMethod yX7_slope, Cond.selects RX7 yX7_slope yX7_slope, Cond.code yX7_slope cX7_slope 8 (some .int), Cond.constant RX7 237 (-2147483648), Cond.methodLink RL 121 yX6_level, Cond.instanceMethod yX6_level, Cond.selects RX6 yX6_level yX6_level, Cond.code yX6_level cX6_level 2 (some .int), Cond.methodLink RL 124 yX7_level, Cond.instanceMethod yX7_level, Cond.selects RX7 yX7_level yX7_level, Cond.code yX7_level cX7_level 1 (some .int), Cond.methodLink RL 125 yX6_back, Cond.instanceMethod yX6_back, Cond.selects RX6 yX6_back yX6_back]
def wsL_law_r37 : List Cond := [Cond.code yX6_back cX6_back 1 (some .int), Cond.methodLink RX6 243 yX4_moves, Cond.instanceMethod yX4_moves, Cond.selects RX4 yX4_moves yX4_moves, Cond.code yX4_moves cX4_moves 1 (some .int), Cond.methodLink RX6 246 yX4_takeBack, Cond.instanceMethod yX4_takeBack, Cond.selects RX4 yX4_takeBack yX4_takeBack, Cond.code yX4_takeBack cX4_takeBack 1 none, Cond.methodLink RL 128 yX7_back, Cond.instanceMethod yX7_back, Cond.selects RX7 yX7_back yX7_back, Cond.code yX7_back cX7_back 2 (some .int), Cond.methodLink RL 129 yX6_fault, Cond.instanceMethod yX6_fault, Cond.selects RX6 yX6_fault yX6_fault, Cond.code yX6_fault cX6_fault 1 (some .int), Cond.methodLink RL 132 yX7_fault, Cond.instanceMethod yX7_fault, Cond.selects RX7 yX7_fault yX7_fault, Cond.code yX7_fault cX7_fault 1 (some .int), Cond.methodLink RL 133 yX6_many, Cond.instanceMethod yX6_many, Cond.selects RX6 yX6_many yX6_many]
def wsL_law_r38 : List Cond := [Cond.code yX6_many cX6_many 2 (some .int), Cond.methodLink RX6 249 yX4_allFeet, Cond.instanceMethod yX4_allFeet, Cond.selects RX4 yX4_allFeet yX4_allFeet, Cond.code yX4_allFeet cX4_allFeet 3 (some .int), Cond.methodLink RX4 71 yX4_feet, Cond.methodLink RX6 252 yX6_filledCards, Cond.instanceMethod yX6_filledCards, Cond.selects RX6 yX6_filledCards yX6_filledCards, Cond.code yX6_filledCards cX6_filledCards 3 (some .int), Cond.methodLink RL 136 yX7_many, Cond.instanceMethod yX7_many, Cond.selects RX7 yX7_many yX7_many, Cond.code yX7_many cX7_many 4 (some .int), Cond.methodLink RX7 238 yX7_feet, Cond.instanceMethod yX7_feet, Cond.selects RX7 yX7_feet yX7_feet, Cond.code yX7_feet cX7_feet 4 (some .int)]
def wsL_law : List Cond := (wsL_law_r1 ++ (wsL_law_r2 ++ (wsL_law_r3 ++ (wsL_law_r4 ++ (wsL_law_r5 ++ (wsL_law_r6 ++ (wsL_law_r7 ++ (wsL_law_r8 ++ (wsL_law_r9 ++ (wsL_law_r10 ++ (wsL_law_r11 ++ (wsL_law_r12 ++ (wsL_law_r13 ++ (wsL_law_r14 ++ (wsL_law_r15 ++ (wsL_law_r16 ++ (wsL_law_r17 ++ (wsL_law_r18 ++ (wsL_law_r19 ++ (wsL_law_r20 ++ (wsL_law_r21 ++ (wsL_law_r22 ++ (wsL_law_r23 ++ (wsL_law_r24 ++ (wsL_law_r25 ++ (wsL_law_r26 ++ (wsL_law_r27 ++ (wsL_law_r28 ++ (wsL_law_r29 ++ (wsL_law_r30 ++ (wsL_law_r31 ++ (wsL_law_r32 ++ (wsL_law_r33 ++ (wsL_law_r34 ++ (wsL_law_r35 ++ (wsL_law_r36 ++ (wsL_law_r37 ++ wsL_law_r38))))))))))))))))))))))))))))))))))))) ++ wsX60 ++ wsX70 ++ wsX40 ++ wsX30 ++ wsX50 ++ wsX00 ++ wsX20 ++ ([] : List Cond)
set_option maxRecDepth 20000 in
theorem wsL_law_in : ∀ w ∈ wsL_law, w ∈ lw_tbl := fun w h => (goodIn_p wsL_law [70, 73, 78, 108, 134, 162, 190, 739, 227, 231, 234, 241, 244, 247, 250, 254, 823, 826, 830, 258, 262, 265, 269, 274, 280, 834, 838, 841, 284, 845, 851, 291, 294, 298, 302, 306, 310, 314, 319, 855, 858, 862, 866, 324, 328, 335, 339, 870, 874, 343, 878, 347, 351, 882, 886, 889, 356, 894, 360, 364, 368, 372, 898, 379, 383, 902, 387, 390, 393, 396, 399, 906, 909, 912, 915, 918, 921, 403, 407, 411, 419, 925, 929, 932, 423, 427, 936, 940, 431, 435, 439, 443, 449, 452, 456, 944, 948, 952, 955, 958, 460, 464, 962, 966, 468, 472, 476, 970, 480, 484, 487, 491, 496, 974, 978, 982, 986, 990, 500, 504, 508, 514, 518, 522, 528, 532, 536, 540, 544, 548, 552, 998, 1002, 1006, 1010, 1014, 556, 560, 564, 569, 573, 577, 581, 585, 589, 593, 1018, 597, 601, 607, 611, 615, 619, 624, 628, 632, 636, 1022, 1026, 1030, 1034, 1038, 1042, 1046, 1050, 640, 644, 648, 1054, 653, 657, 1058, 1062, 664, 668, 671, 674, 678, 1070, 1074, 1078, 682, 685, 1082, 690, 694, 697, 700, 1087, 705, 1066, 709, 713, 717, 994, 721, 1092, 725, 729, 734, 1096, 1100] (by decide +kernel) (by decide +kernel) w h).1
theorem inlX0 : ∀ w ∈ wsX00, w ∈ wsL_law := fun _ h => List.mem_append_left _ (List.mem_append_left _ (List.mem_append_right _ h))
theorem inX0 : ∀ w ∈ wsX00, w ∈ lw_tbl := fun w h => wsL_law_in w (inlX0 w h)
theorem inX1 : ∀ w ∈ wsX10, w ∈ lw_tbl := by decide +kernel
theorem inlX2 : ∀ w ∈ wsX20, w ∈ wsL_law := fun _ h => List.mem_append_left _ (List.mem_append_right _ h)
theorem inX2 : ∀ w ∈ wsX20, w ∈ lw_tbl := fun w h => wsL_law_in w (inlX2 w h)
theorem inlX3 : ∀ w ∈ wsX30, w ∈ wsL_law := fun _ h => List.mem_append_left _ (List.mem_append_left _ (List.mem_append_left _ (List.mem_append_left _ (List.mem_append_right _ h))))
theorem inX3 : ∀ w ∈ wsX30, w ∈ lw_tbl := fun w h => wsL_law_in w (inlX3 w h)
theorem inlX4 : ∀ w ∈ wsX40, w ∈ wsL_law := fun _ h => List.mem_append_left _ (List.mem_append_left _ (List.mem_append_left _ (List.mem_append_left _ (List.mem_append_left _ (List.mem_append_right _ h)))))
theorem inX4 : ∀ w ∈ wsX40, w ∈ lw_tbl := fun w h => wsL_law_in w (inlX4 w h)
theorem inlX5 : ∀ w ∈ wsX50, w ∈ wsL_law := fun _ h => List.mem_append_left _ (List.mem_append_left _ (List.mem_append_left _ (List.mem_append_right _ h)))
theorem inX5 : ∀ w ∈ wsX50, w ∈ lw_tbl := fun w h => wsL_law_in w (inlX5 w h)
theorem inlX6 : ∀ w ∈ wsX60, w ∈ wsL_law := fun _ h => List.mem_append_left _ (List.mem_append_left _ (List.mem_append_left _ (List.mem_append_left _ (List.mem_append_left _ (List.mem_append_left _ (List.mem_append_left _ (List.mem_append_right _ h)))))))
theorem inX6 : ∀ w ∈ wsX60, w ∈ lw_tbl := fun w h => wsL_law_in w (inlX6 w h)
theorem inlX7 : ∀ w ∈ wsX70, w ∈ wsL_law := fun _ h => List.mem_append_left _ (List.mem_append_left _ (List.mem_append_left _ (List.mem_append_left _ (List.mem_append_left _ (List.mem_append_left _ (List.mem_append_right _ h))))))
theorem inX7 : ∀ w ∈ wsX70, w ∈ lw_tbl := fun w h => wsL_law_in w (inlX7 w h)
theorem inJ6 : ∀ w ∈ wsJ60, w ∈ lw_tbl := by decide +kernel
theorem inJ9 : ∀ w ∈ wsJ90, w ∈ lw_tbl := by decide +kernel
theorem inJ10 : ∀ w ∈ wsJ100, w ∈ lw_tbl := by decide +kernel
theorem inJ7 : ∀ w ∈ wsJ70, w ∈ lw_tbl := by decide +kernel
abbrev vwCl : List vw_C := [(RX0, TX0, 7), (RX2, TX2, 3), (RX3, TX3, 6), (RX4, TX4, 6), (RX5, TX5, 7), (RX6, TX6, 7), (RX7, TX7, 26)]
