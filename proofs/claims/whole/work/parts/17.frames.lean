/-! which cells a function may change -/
def tin (T : List (Nat × Nat)) (c k : Nat) : Bool := T.any (fun e => e.1 == c && (e.2 == k || e.2 == 99999))
def tinA (T : List (Nat × Nat)) (c : Nat) : Bool := T.any (fun e => e.1 == c && e.2 == 99999)
def Fr (T : List (Nat × Nat)) (M M' : zMem) : Prop := ∀ c k, tin T c k = false → M' c k = M c k
theorem Fr_rf {T : List (Nat × Nat)} {M : zMem} : Fr T M M := fun _ _ _ => rfl
theorem Fr_tr {T : List (Nat × Nat)} {M M' M'' : zMem} (h1 : Fr T M M') (h2 : Fr T M' M'') : Fr T M M'' := fun c k h => (h2 c k h).trans (h1 c k h)
theorem Fr_sub {T T' : List (Nat × Nat)} {M M' : zMem} (hs : ∀ e ∈ T, e ∈ T') (h : Fr T M M') : Fr T' M M' := by
  intro c k hk
  apply h c k
  cases ht : tin T c k with
  | false => rfl
  | true =>
    obtain ⟨e, he, h1⟩ := List.any_eq_true.mp ht
    have : tin T' c k = true := List.any_eq_true.mpr ⟨e, hs e he, h1⟩
    rw [this] at hk
    cases hk
theorem tinA_tin {T : List (Nat × Nat)} {c : Nat} (h : tinA T c = true) (k : Nat) : tin T c k = true := by
  obtain ⟨e, he, h1⟩ := List.any_eq_true.mp h
  refine List.any_eq_true.mpr ⟨e, he, ?_⟩
  simp only [Bool.and_eq_true, beq_iff_eq, Bool.or_eq_true] at h1 ⊢
  exact ⟨h1.1, Or.inr h1.2⟩
theorem Fr_wF {T : List (Nat × Nat)} {M M1 : zMem} {c k : Nat} {x : Int32} (h : Fr T M M1) (ht : tin T c k = true) : Fr T M (zwr M1 c k x) := by
  intro c' k' hk
  rw [← h c' k' hk]
  unfold zwr
  split
  · rename_i e
    subst e
    unfold upd
    split
    · rename_i e2
      subst e2
      rw [ht] at hk
      cases hk
    · rfl
  · rfl
theorem Fr_wA {T : List (Nat × Nat)} {M M1 : zMem} {c k : Nat} {x : Int32} (h : Fr T M M1) (ht : tinA T c = true) : Fr T M (zwr M1 c k x) := Fr_wF h (tinA_tin ht k)
theorem Fr_wa {T : List (Nat × Nat)} {M M1 : zMem} {c : Nat} {f : Nat → Int32} (h : Fr T M M1) (ht : tinA T c = true) : Fr T M (zwa M1 c f) := by
  intro c' k' hk
  rw [← h c' k' hk]
  unfold zwa
  split
  · rename_i e
    subst e
    rw [tinA_tin ht k'] at hk
    cases hk
  · rfl
theorem zn_sp {α β : Type} {e : α} {K : α → β} {w : β} (h : zn e K = w) : ∃ x, x = e ∧ K x = w := ⟨e, rfl, h⟩
theorem zlp_fr {α β : Type} {body : α → Option (α ⊕ β)} {mem : α → zMem} {memb : β → zMem} {T : List (Nat × Nat)} (hb : ∀ a w, body a = some w → Fr T (mem a) (Sum.elim mem memb w)) : ∀ n a b, zlp body n a = some b → Fr T (mem a) (memb b) := by
  intro n
  induction n with
  | zero => intro a b h; cases h
  | succ n ih =>
    intro a b h
    unfold zlp at h
    cases hw : body a with
    | none => rw [hw] at h; cases h
    | some v =>
      rw [hw] at h
      have := hb a v hw
      rcases v with a' | b'
      · exact Fr_tr this (ih _ _ h)
      · cases h
        exact this
theorem Fr_el {γ : Type} {g : γ → zMem} {T : List (Nat × Nat)} {M : zMem} {v w : γ} (h : some v = some w) (hM : Fr T M (g v)) : Fr T M (g w) := by cases h; exact hM
theorem Fr_eM {T : List (Nat × Nat)} {M M' Mo : zMem} (h : some M' = some Mo) (hM : Fr T M M') : Fr T M Mo := by cases h; exact hM
theorem Fr_eiM {T : List (Nat × Nat)} {M M' Mo : zMem} {r ro : Int32} (h : some (r, M') = some (ro, Mo)) (hM : Fr T M M') : Fr T M Mo := by cases h; exact hM
theorem Fr_elM {T : List (Nat × Nat)} {M M' Mo : zMem} {r ro : Int64} (h : some (r, M') = some (ro, Mo)) (hM : Fr T M M') : Fr T M Mo := by cases h; exact hM
theorem Fr_eiMF {T : List (Nat × Nat)} {M M' Mo : zMem} {r ro : Int32} {F Fo : Int64} (h : some (r, M', F) = some (ro, Mo, Fo)) (hM : Fr T M M') : Fr T M Mo := by cases h; exact hM
theorem Fr_elMF {T : List (Nat × Nat)} {M M' Mo : zMem} {r ro : Int64} {F Fo : Int64} (h : some (r, M', F) = some (ro, Mo, Fo)) (hM : Fr T M M') : Fr T M Mo := by cases h; exact hM
theorem Fr_eMF {T : List (Nat × Nat)} {M M' Mo : zMem} {F Fo : Int64} (h : some (M', F) = some (Mo, Fo)) (hM : Fr T M M') : Fr T M Mo := by cases h; exact hM

def tX0_measure : List (Nat × Nat) := [(32, 3), (32, 4), (32, 5), (34, 99999), (35, 99999), (36, 99999), (37, 99999), (38, 99999), (39, 99999), (40, 99999), (41, 99999), (42, 99999), (43, 99999), (44, 99999), (45, 99999), (46, 99999), (47, 99999), (48, 99999), (49, 99999), (50, 99999), (51, 99999), (52, 99999), (53, 99999), (54, 99999), (55, 99999), (56, 99999), (57, 99999)]
set_option maxRecDepth 100000 in
theorem frX0_measure_L2 {p1 : Int32} {p2 : Int32} {x1 : Int32} {M2 : zMem}  {w} (hf : fX0_measure_L2 p1 p2 x1 M2 = some w) : Fr tX0_measure M2 (Sum.elim (fun a => a.2) (fun a => a.2) w) := by
  have hM : Fr tX0_measure M2 M2 := Fr_rf
  unfold fX0_measure_L2 at hf
  by_cases h1027 : (32 : Int32) ≤ x1
  · have hf := zt h1027 hf
    exact Fr_el (g := Sum.elim (fun a => a.2) (fun a => a.2)) hf hM
  · have hf := zf h1027 hf
    obtain ⟨x1003, -, hf⟩ := zn_sp hf
    obtain ⟨h1004, hf⟩ := zc_sp hf
    obtain ⟨k1006, k1006e, hf⟩ := zj_sp hf
    have hj1007 : ∀ (x1005 : Int32), k1006 x1005 = some w → Fr tX0_measure M2 (Sum.elim (fun a => a.2) (fun a => a.2) w) := by
      intro x1005 hf
      rw [k1006e] at hf
      obtain ⟨h1013, hf⟩ := zc_sp hf
      obtain ⟨M1014, M1014e, hf⟩ := zn_sp hf
      have hM := M1014e ▸ (Fr_wA hM ((by decide : ∀ j, j < 24 → tinA tX0_measure (34 + j) = true) _ (zin_lt h1004)))
      clear M1014e
      obtain ⟨k1016, k1016e, hf⟩ := zj_sp hf
      have hj1017 : ∀ (M1015 : zMem), Fr tX0_measure M2 M1015 → k1016 M1015 = some w → Fr tX0_measure M2 (Sum.elim (fun a => a.2) (fun a => a.2) w) := by
        intro M1015 hM hf
        rw [k1016e] at hf
        exact Fr_el (g := Sum.elim (fun a => a.2) (fun a => a.2)) hf hM
      clear k1016e
      by_cases h1026 : x1003 = 0
      · have hf := zt h1026 hf
        exact hj1017 _ hM hf
      · have hf := zf h1026 hf
        obtain ⟨h1018, hf⟩ := zc_sp hf
        obtain ⟨h1019, hf⟩ := zc_sp hf
        by_cases h1025 : (M1014 (34 + p1.toNatClampNeg) x1.toNatClampNeg) < (M1014 32 4)
        · have hf := zt h1025 hf
          exact hj1017 _ hM hf
        · have hf := zf h1025 hf
          obtain ⟨h1020, hf⟩ := zc_sp hf
          obtain ⟨h1021, hf⟩ := zc_sp hf
          obtain ⟨M1022, M1022e, hf⟩ := zn_sp hf
          have hM := M1022e ▸ (Fr_wF hM rfl)
          clear M1022e
          obtain ⟨M1023, M1023e, hf⟩ := zn_sp hf
          have hM := M1023e ▸ (Fr_wF hM rfl)
          clear M1023e
          obtain ⟨M1024, M1024e, hf⟩ := zn_sp hf
          have hM := M1024e ▸ (Fr_wF hM rfl)
          clear M1024e
          exact hj1017 _ hM hf
    clear k1006e
    by_cases h1012 : x1003 = 0
    · have hf := zt h1012 hf
      exact hj1007 _ hf
    · have hf := zf h1012 hf
      obtain ⟨r1009, h1008, hf⟩ := zb1_sp hf
      obtain ⟨r1011, h1010, hf⟩ := zb1_sp hf
      exact hj1007 _ hf
set_option maxRecDepth 100000 in
theorem frX0_measure {p1 : Int32} {p2 : Int32} {M : zMem} {Mo : zMem}  (hf : fX0_measure p1 p2 M = some Mo) : Fr tX0_measure M Mo := by
  have hM : Fr tX0_measure M M := Fr_rf
  unfold fX0_measure at hf
  obtain ⟨b3, hb4, hf⟩ := zb1_sp hf
  have hM := Fr_tr hM (zlp_fr (mem := (fun a => a.2)) (memb := (fun a => a.2)) (T := tX0_measure) (fun a w hw => frX0_measure_L2  hw) _ _ _ hb4)
  obtain ⟨x5, M6⟩ := b3
  exact Fr_eM hf hM
def tX0_follow : List (Nat × Nat) := [(32, 6), (58, 99999)]
set_option maxRecDepth 100000 in
theorem frX0_follow_L15 {x4 : Int32} {x5 : Int32} {M6 : zMem}  {w} (hf : fX0_follow_L15 x4 x5 M6 = some w) : Fr tX0_follow M6 (Sum.elim (fun a => a.2.2) (fun a => a.2.2) w) := by
  have hM : Fr tX0_follow M6 M6 := Fr_rf
  unfold fX0_follow_L15 at hf
  by_cases h1022 : ((M6 32 3) + (M6 32 4)) ≤ x4
  · have hf := zt h1022 hf
    exact Fr_el (g := Sum.elim (fun a => a.2.2) (fun a => a.2.2)) hf hM
  · have hf := zf h1022 hf
    by_cases h1021 : (24 : Int32) ≤ x4
    · have hf := zt h1021 hf
      exact Fr_el (g := Sum.elim (fun a => a.2.2) (fun a => a.2.2)) hf hM
    · have hf := zf h1021 hf
      obtain ⟨h1016, hf⟩ := zc_sp hf
      obtain ⟨M1017, M1017e, hf⟩ := zn_sp hf
      have hM := M1017e ▸ (Fr_wA hM (c := 58) rfl)
      clear M1017e
      obtain ⟨M1018, M1018e, hf⟩ := zn_sp hf
      have hM := M1018e ▸ (Fr_wF hM rfl)
      clear M1018e
      obtain ⟨r1020, h1019, hf⟩ := zb1_sp hf
      exact Fr_el (g := Sum.elim (fun a => a.2.2) (fun a => a.2.2)) hf hM
set_option maxRecDepth 100000 in
theorem frX0_follow {M : zMem} {Mo : zMem}  (hf : fX0_follow M = some Mo) : Fr tX0_follow M Mo := by
  have hM : Fr tX0_follow M M := Fr_rf
  unfold fX0_follow at hf
  obtain ⟨M1, M1e, hf⟩ := zn_sp hf
  have hM := M1e ▸ (Fr_wF hM rfl)
  clear M1e
  obtain ⟨x2, -, hf⟩ := zn_sp hf
  obtain ⟨x3, -, hf⟩ := zn_sp hf
  obtain ⟨b7, hb8, hf⟩ := zb1_sp hf
  have hM := Fr_tr hM (zlp_fr (mem := (fun a => a.2.2)) (memb := (fun a => a.2.2)) (T := tX0_follow) (fun a w hw => frX0_follow_L15  hw) _ _ _ hb8)
  obtain ⟨x9, x10, M11⟩ := b7
  exact Fr_eM hf hM
def tX0_find : List (Nat × Nat) := [(32, 2), (32, 3), (32, 4), (32, 5), (32, 6), (34, 99999), (35, 99999), (36, 99999), (37, 99999), (38, 99999), (39, 99999), (40, 99999), (41, 99999), (42, 99999), (43, 99999), (44, 99999), (45, 99999), (46, 99999), (47, 99999), (48, 99999), (49, 99999), (50, 99999), (51, 99999), (52, 99999), (53, 99999), (54, 99999), (55, 99999), (56, 99999), (57, 99999), (58, 99999)]
set_option maxRecDepth 100000 in
theorem frX0_find_L25 {x6 : Int32} {M7 : zMem}  {w} (hf : fX0_find_L25 x6 M7 = some w) : Fr tX0_find M7 (Sum.elim (fun a => a.2) (fun a => a.2) w) := by
  have hM : Fr tX0_find M7 M7 := Fr_rf
  unfold fX0_find_L25 at hf
  by_cases h1030 : x6 < 0
  · have hf := zt h1030 hf
    exact Fr_el (g := Sum.elim (fun a => a.2) (fun a => a.2)) hf hM
  · have hf := zf h1030 hf
    obtain ⟨r1027, h1026, hf⟩ := zb1_sp hf
    obtain ⟨M1029, h1028, hf⟩ := zb1_sp hf
    have hM := Fr_tr hM (Fr_sub (by decide) (frX0_measure  h1028))
    exact Fr_el (g := Sum.elim (fun a => a.2) (fun a => a.2)) hf hM
set_option maxRecDepth 100000 in
theorem frX0_find {M : zMem} {Mo : zMem}  (hf : fX0_find M = some Mo) : Fr tX0_find M Mo := by
  have hM : Fr tX0_find M M := Fr_rf
  unfold fX0_find at hf
  obtain ⟨r2, h1, hf⟩ := zb1_sp hf
  obtain ⟨M3, M3e, hf⟩ := zn_sp hf
  have hM := M3e ▸ (Fr_wF hM rfl)
  clear M3e
  obtain ⟨M4, M4e, hf⟩ := zn_sp hf
  have hM := M4e ▸ (Fr_wF hM rfl)
  clear M4e
  obtain ⟨x5, -, hf⟩ := zn_sp hf
  obtain ⟨b8, hb9, hf⟩ := zb1_sp hf
  have hM := Fr_tr hM (zlp_fr (mem := (fun a => a.2)) (memb := (fun a => a.2)) (T := tX0_find) (fun a w hw => frX0_find_L25  hw) _ _ _ hb9)
  obtain ⟨x10, M11⟩ := b8
  obtain ⟨M13, h12, hf⟩ := zb1_sp hf
  have hM := Fr_tr hM (Fr_sub (by decide) (frX0_follow  h12))
  exact Fr_eM hf hM
def tX2_drop : List (Nat × Nat) := [(14, 1), (14, 2), (15, 1), (15, 2), (16, 1), (16, 2), (17, 1), (17, 2)]
set_option maxRecDepth 100000 in
theorem frX2_drop {j : Nat} {M : zMem} {Mo : zMem} (jh : j < 4) (hf : fX2_drop j M = some Mo) : Fr tX2_drop M Mo := by
  have hM : Fr tX2_drop M M := Fr_rf
  unfold fX2_drop at hf
  obtain ⟨M1, M1e, hf⟩ := zn_sp hf
  have hM := M1e ▸ (Fr_wF hM ((by decide : ∀ j, j < 4 → tin tX2_drop (14 + j) 1 = true) _ jh))
  clear M1e
  obtain ⟨M2, M2e, hf⟩ := zn_sp hf
  have hM := M2e ▸ (Fr_wF hM ((by decide : ∀ j, j < 4 → tin tX2_drop (14 + j) 2 = true) _ jh))
  clear M2e
  exact Fr_eM hf hM
def tJ7_fill_53178 (c0 : Nat) : List (Nat × Nat) := [(c0, 99999)]
set_option maxRecDepth 100000 in
theorem frJ7_fill_53178_L5 {c0 : Nat} {c0n : Nat} {p1 : Int32} {x1 : Int32} {x2 : Int32} {M3 : zMem}  {w} (hf : fJ7_fill_53178_L5 c0 c0n p1 x1 x2 M3 = some w) : Fr (tJ7_fill_53178 c0) M3 (Sum.elim (fun a => a.2) (fun a => a.2) w) := by
  have hM : Fr (tJ7_fill_53178 c0) M3 M3 := Fr_rf
  unfold fJ7_fill_53178_L5 at hf
  by_cases h1008 : x1 ≤ x2
  · have hf := zt h1008 hf
    exact Fr_el (g := Sum.elim (fun a => a.2) (fun a => a.2)) hf hM
  · have hf := zf h1008 hf
    obtain ⟨h1006, hf⟩ := zc_sp hf
    obtain ⟨M1007, M1007e, hf⟩ := zn_sp hf
    have hM := M1007e ▸ (Fr_wA hM (c := c0) (by simp [tinA, tJ7_fill_53178]))
    clear M1007e
    exact Fr_el (g := Sum.elim (fun a => a.2) (fun a => a.2)) hf hM
set_option maxRecDepth 100000 in
theorem frJ7_fill_53178 {c0 : Nat} {c0n : Nat} {p1 : Int32} {M : zMem} {Mo : zMem}  (hf : fJ7_fill_53178 c0 c0n p1 M = some Mo) : Fr (tJ7_fill_53178 c0) M Mo := by
  have hM : Fr (tJ7_fill_53178 c0) M M := Fr_rf
  unfold fJ7_fill_53178 at hf
  obtain ⟨x1, -, hf⟩ := zn_sp hf
  obtain ⟨b4, hb5, hf⟩ := zb1_sp hf
  have hM := Fr_tr hM (zlp_fr (mem := (fun a => a.2)) (memb := (fun a => a.2)) (T := (tJ7_fill_53178 c0)) (fun a w hw => frJ7_fill_53178_L5  hw) _ _ _ hb5)
  obtain ⟨x6, M7⟩ := b4
  exact Fr_eM hf hM
def tX2_renew : List (Nat × Nat) := [(14, 1), (14, 2), (15, 1), (15, 2), (16, 1), (16, 2), (17, 1), (17, 2), (18, 99999), (19, 99999), (20, 99999), (21, 99999)]
set_option maxRecDepth 100000 in
theorem frX2_renew {j : Nat} {p1 : Int32} {p2 : Int32} {M : zMem} {Mo : zMem} (jh : j < 4) (hf : fX2_renew j p1 p2 M = some Mo) : Fr tX2_renew M Mo := by
  have hM : Fr tX2_renew M M := Fr_rf
  unfold fX2_renew at hf
  obtain ⟨M1, M1e, hf⟩ := zn_sp hf
  have hM := M1e ▸ (Fr_wF hM ((by decide : ∀ j, j < 4 → tin tX2_renew (14 + j) 1 = true) _ jh))
  clear M1e
  obtain ⟨M2, M2e, hf⟩ := zn_sp hf
  have hM := M2e ▸ (Fr_wF hM ((by decide : ∀ j, j < 4 → tin tX2_renew (14 + j) 2 = true) _ jh))
  clear M2e
  obtain ⟨M4, h3, hf⟩ := zb1_sp hf
  have hM := Fr_tr hM (Fr_sub (by intro e he; simp [tJ7_fill_53178] at he; subst he; exact (by decide : ∀ j, j < 4 → (18 + j, 99999) ∈ tX2_renew) _ jh) (frJ7_fill_53178 h3))
  exact Fr_eM hf hM
def tX2_write : List (Nat × Nat) := [(18, 99999), (19, 99999), (20, 99999), (21, 99999)]
set_option maxRecDepth 100000 in
theorem frX2_write {j : Nat} {p1 : Int32} {p2 : Int32} {M : zMem} {Mo : zMem} (jh : j < 4) (hf : fX2_write j p1 p2 M = some Mo) : Fr tX2_write M Mo := by
  have hM : Fr tX2_write M M := Fr_rf
  unfold fX2_write at hf
  obtain ⟨r2, h1, hf⟩ := zb1_sp hf
  obtain ⟨k4, k4e, hf⟩ := zj_sp hf
  have hj5 : ∀ (M3 : zMem), Fr tX2_write M M3 → k4 M3 = some Mo → Fr tX2_write M Mo := by
    intro M3 hM hf
    rw [k4e] at hf
    exact Fr_eM hf hM
  clear k4e
  by_cases h10 : r2 = 0
  · have hf := zt h10 hf
    exact hj5 _ hM hf
  · have hf := zf h10 hf
    obtain ⟨r7, h6, hf⟩ := zb1_sp hf
    obtain ⟨h8, hf⟩ := zc_sp hf
    obtain ⟨M9, M9e, hf⟩ := zn_sp hf
    have hM := M9e ▸ (Fr_wA hM ((by decide : ∀ j, j < 4 → tinA tX2_write (18 + j) = true) _ jh))
    clear M9e
    exact hj5 _ hM hf
def tX2_copyTo : List (Nat × Nat) := [(18, 99999), (19, 99999), (20, 99999), (21, 99999)]
set_option maxRecDepth 100000 in
theorem frX2_copyTo {j : Nat} {p1 : Int32} {j2 : Nat} {p3 : Int32} {p4 : Int32} {M : zMem} {Mo : zMem} (jh : j < 4) (j2h : j2 < 4) (hf : fX2_copyTo j p1 j2 p3 p4 M = some Mo) : Fr tX2_copyTo M Mo := by
  have hM : Fr tX2_copyTo M M := Fr_rf
  unfold fX2_copyTo at hf
  obtain ⟨r2, h1, hf⟩ := zb1_sp hf
  obtain ⟨k4, k4e, hf⟩ := zj_sp hf
  have hj5 : ∀ (M3 : zMem), Fr tX2_copyTo M M3 → k4 M3 = some Mo → Fr tX2_copyTo M Mo := by
    intro M3 hM hf
    rw [k4e] at hf
    exact Fr_eM hf hM
  clear k4e
  by_cases h11 : r2 = 0
  · have hf := zt h11 hf
    exact hj5 _ hM hf
  · have hf := zf h11 hf
    obtain ⟨r7, h6, hf⟩ := zb1_sp hf
    by_cases h10 : r7 = 0
    · have hf := zt h10 hf
      exact hj5 _ hM hf
    · have hf := zf h10 hf
      obtain ⟨h8, hf⟩ := zc_sp hf
      obtain ⟨M9, M9e, hf⟩ := zn_sp hf
      have hM := M9e ▸ (Fr_wa hM ((by decide : ∀ j, j < 4 → tinA tX2_copyTo (18 + j) = true) _ j2h))
      clear M9e
      exact hj5 _ hM hf
def tX3_countIn : List (Nat × Nat) := [(23, 99999)]
set_option maxRecDepth 100000 in
theorem frX3_countIn {p1 : Int32} {M : zMem} {Mo : zMem}  (hf : fX3_countIn p1 M = some Mo) : Fr tX3_countIn M Mo := by
  have hM : Fr tX3_countIn M M := Fr_rf
  unfold fX3_countIn at hf
  obtain ⟨k2, k2e, hf⟩ := zj_sp hf
  have hj3 : ∀ (M1 : zMem), Fr tX3_countIn M M1 → k2 M1 = some Mo → Fr tX3_countIn M Mo := by
    intro M1 hM hf
    rw [k2e] at hf
    exact Fr_eM hf hM
  clear k2e
  by_cases h8 : p1 < (-31 : Int32)
  · have hf := zt h8 hf
    exact hj3 _ hM hf
  · have hf := zf h8 hf
    by_cases h7 : (54 : Int32) < p1
    · have hf := zt h7 hf
      exact hj3 _ hM hf
    · have hf := zf h7 hf
      obtain ⟨h4, hf⟩ := zc_sp hf
      obtain ⟨h5, hf⟩ := zc_sp hf
      obtain ⟨M6, M6e, hf⟩ := zn_sp hf
      have hM := M6e ▸ (Fr_wA hM (c := 23) rfl)
      clear M6e
      exact hj3 _ hM hf
def tX3_tally : List (Nat × Nat) := [(23, 99999)]
set_option maxRecDepth 100000 in
theorem frX3_tally_L31 {p2 : Int32} {p3 : Int32} {x3 : Int32} {x16 : Int32} {x17 : Int32} {M18 : zMem}  {w} (hf : fX3_tally_L31 p2 p3 x3 x16 x17 M18 = some w) : Fr tX3_tally M18 (Sum.elim (fun a => a.2.2) (fun a => a.2.2) w) := by
  have hM : Fr tX3_tally M18 M18 := Fr_rf
  unfold fX3_tally_L31 at hf
  by_cases h1048 : (32 : Int32) ≤ x16
  · have hf := zt h1048 hf
    exact Fr_el (g := Sum.elim (fun a => a.2.2) (fun a => a.2.2)) hf hM
  · have hf := zf h1048 hf
    by_cases h1047 : x17 = 0
    · have hf := zt h1047 hf
      exact Fr_el (g := Sum.elim (fun a => a.2.2) (fun a => a.2.2)) hf hM
    · have hf := zf h1047 hf
      obtain ⟨k1033, k1033e, hf⟩ := zj_sp hf
      have hj1034 : ∀ (M1032 : zMem), Fr tX3_tally M18 M1032 → k1033 M1032 = some w → Fr tX3_tally M18 (Sum.elim (fun a => a.2.2) (fun a => a.2.2) w) := by
        intro M1032 hM hf
        rw [k1033e] at hf
        obtain ⟨x1046, -, hf⟩ := zn_sp hf
        exact Fr_el (g := Sum.elim (fun a => a.2.2) (fun a => a.2.2)) hf hM
      clear k1033e
      by_cases h1045 : (x17 &&& (1 : Int32)) = (1 : Int32)
      · have hf := zt h1045 hf
        obtain ⟨k1036, k1036e, hf⟩ := zj_sp hf
        have hj1037 : ∀ (x1035 : Int32), k1036 x1035 = some w → Fr tX3_tally M18 (Sum.elim (fun a => a.2.2) (fun a => a.2.2) w) := by
          intro x1035 hf
          rw [k1036e] at hf
          obtain ⟨M1044, h1043, hf⟩ := zb1_sp hf
          have hM := Fr_tr hM (Fr_sub (by decide) (frX3_countIn  h1043))
          exact hj1034 _ hM hf
        clear k1036e
        by_cases h1042 : p2 = 0
        · have hf := zt h1042 hf
          obtain ⟨r1041, h1040, hf⟩ := zb1_sp hf
          exact hj1037 _ hf
        · have hf := zf h1042 hf
          obtain ⟨r1039, h1038, hf⟩ := zb1_sp hf
          exact hj1037 _ hf
      · have hf := zf h1045 hf
        exact hj1034 _ hM hf
set_option maxRecDepth 100000 in
theorem frX3_tally_L11 {p2 : Int32} {p3 : Int32} {x3 : Int32} {M4 : zMem}  {w} (hf : fX3_tally_L11 p2 p3 x3 M4 = some w) : Fr tX3_tally M4 (Sum.elim (fun a => a.2) (fun a => a.2) w) := by
  have hM : Fr tX3_tally M4 M4 := Fr_rf
  unfold fX3_tally_L11 at hf
  obtain ⟨r1013, h1012, hf⟩ := zb1_sp hf
  by_cases h1024 : r1013 ≤ x3
  · have hf := zt h1024 hf
    exact Fr_el (g := Sum.elim (fun a => a.2) (fun a => a.2)) hf hM
  · have hf := zf h1024 hf
    obtain ⟨r1015, h1014, hf⟩ := zb1_sp hf
    obtain ⟨b1019, hb1020, hf⟩ := zb1_sp hf
    have hM := Fr_tr hM (zlp_fr (mem := (fun a => a.2.2)) (memb := (fun a => a.2.2)) (T := tX3_tally) (fun a w hw => frX3_tally_L31  hw) _ _ _ hb1020)
    obtain ⟨x1021, x1022, M1023⟩ := b1019
    exact Fr_el (g := Sum.elim (fun a => a.2) (fun a => a.2)) hf hM
set_option maxRecDepth 100000 in
theorem frX3_tally {p2 : Int32} {p3 : Int32} {M : zMem} {Mo : zMem}  (hf : fX3_tally p2 p3 M = some Mo) : Fr tX3_tally M Mo := by
  have hM : Fr tX3_tally M M := Fr_rf
  unfold fX3_tally at hf
  obtain ⟨M2, h1, hf⟩ := zb1_sp hf
  have hM := Fr_tr hM (Fr_sub (by intro e he; simp [tJ7_fill_53178] at he; subst he; decide) (frJ7_fill_53178 h1))
  obtain ⟨b5, hb6, hf⟩ := zb1_sp hf
  have hM := Fr_tr hM (zlp_fr (mem := (fun a => a.2)) (memb := (fun a => a.2)) (T := tX3_tally) (fun a w hw => frX3_tally_L11  hw) _ _ _ hb6)
  obtain ⟨x7, M8⟩ := b5
  exact Fr_eM hf hM
def tX3_countAt : List (Nat × Nat) := [(23, 99999)]
set_option maxRecDepth 100000 in
theorem frX3_countAt {p2 : Int32} {p3 : Int32} {p4 : Int32} {M : zMem} {ro : Int32} {Mo : zMem}  (hf : fX3_countAt p2 p3 p4 M = some (ro, Mo)) : Fr tX3_countAt M Mo := by
  have hM : Fr tX3_countAt M M := Fr_rf
  unfold fX3_countAt at hf
  obtain ⟨M2, h1, hf⟩ := zb1_sp hf
  have hM := Fr_tr hM (Fr_sub (by decide) (frX3_tally  h1))
  obtain ⟨k4, k4e, hf⟩ := zj_sp hf
  have hj5 : ∀ (x3 : Int32), k4 x3 = some (ro, Mo) → Fr tX3_countAt M Mo := by
    intro x3 hf
    rw [k4e] at hf
    exact Fr_eiM hf hM
  clear k4e
  by_cases h8 : p4 < (-31 : Int32)
  · have hf := zt h8 hf
    exact hj5 _ hf
  · have hf := zf h8 hf
    by_cases h7 : (54 : Int32) < p4
    · have hf := zt h7 hf
      exact hj5 _ hf
    · have hf := zf h7 hf
      obtain ⟨h6, hf⟩ := zc_sp hf
      exact hj5 _ hf
def tX3_sharpness : List (Nat × Nat) := [(23, 99999)]
set_option maxRecDepth 100000 in
theorem frX3_sharpness {p2 : Int32} {p3 : Int32} {M : zMem} {ro : Int32} {Mo : zMem}  (hf : fX3_sharpness p2 p3 M = some (ro, Mo)) : Fr tX3_sharpness M Mo := by
  have hM : Fr tX3_sharpness M M := Fr_rf
  unfold fX3_sharpness at hf
  obtain ⟨M2, h1, hf⟩ := zb1_sp hf
  have hM := Fr_tr hM (Fr_sub (by decide) (frX3_tally  h1))
  obtain ⟨b6, hb7, hf⟩ := zb1_sp hf
  obtain ⟨x8, x9, x10⟩ := b6
  exact Fr_eiM hf hM
def tX3_begin : List (Nat × Nat) := [(22, 3), (25, 99999)]
set_option maxRecDepth 100000 in
theorem frX3_begin_L7 {x2 : Int32} {M3 : zMem}  {w} (hf : fX3_begin_L7 x2 M3 = some w) : Fr tX3_begin M3 (Sum.elim (fun a => a.2) (fun a => a.2) w) := by
  have hM : Fr tX3_begin M3 M3 := Fr_rf
  unfold fX3_begin_L7 at hf
  by_cases h1010 : (33 : Int32) ≤ x2
  · have hf := zt h1010 hf
    exact Fr_el (g := Sum.elim (fun a => a.2) (fun a => a.2)) hf hM
  · have hf := zf h1010 hf
    obtain ⟨h1008, hf⟩ := zc_sp hf
    obtain ⟨M1009, M1009e, hf⟩ := zn_sp hf
    have hM := M1009e ▸ (Fr_wA hM (c := 25) rfl)
    clear M1009e
    exact Fr_el (g := Sum.elim (fun a => a.2) (fun a => a.2)) hf hM
set_option maxRecDepth 100000 in
theorem frX3_begin {M : zMem} {Mo : zMem}  (hf : fX3_begin M = some Mo) : Fr tX3_begin M Mo := by
  have hM : Fr tX3_begin M M := Fr_rf
  unfold fX3_begin at hf
  obtain ⟨M1, M1e, hf⟩ := zn_sp hf
  have hM := M1e ▸ (Fr_wF hM rfl)
  clear M1e
  obtain ⟨b4, hb5, hf⟩ := zb1_sp hf
  have hM := Fr_tr hM (zlp_fr (mem := (fun a => a.2)) (memb := (fun a => a.2)) (T := tX3_begin) (fun a w hw => frX3_begin_L7  hw) _ _ _ hb5)
  obtain ⟨x6, M7⟩ := b4
  exact Fr_eM hf hM
def tX3_attemptAt : List (Nat × Nat) := [(22, 3), (22, 4), (22, 5), (23, 99999), (24, 99999), (25, 99999)]
set_option maxRecDepth 100000 in
theorem frX3_attemptAt {p2 : Int32} {p3 : Int32} {M : zMem} {Mo : zMem}  (hf : fX3_attemptAt p2 p3 M = some Mo) : Fr tX3_attemptAt M Mo := by
  have hM : Fr tX3_attemptAt M M := Fr_rf
  unfold fX3_attemptAt at hf
  obtain ⟨r2, h1, hf⟩ := zb1_sp hf
  by_cases h25 : r2 = 0
  · have hf := zt h25 hf
    exact Fr_eM hf hM
  · have hf := zf h25 hf
    obtain ⟨h3, hf⟩ := zc_sp hf
    by_cases h24 : (M 25 (p3 + (16 : Int32)).toNatClampNeg) = 0
    · have hf := zt h24 hf
      by_cases h23 : (M 22 3) < (33 : Int32)
      · have hf := zt h23 hf
        obtain ⟨r5, M6, h4, hf⟩ := zb2_sp hf
        have hM := Fr_tr hM (Fr_sub (by decide) (frX3_sharpness  h4))
        obtain ⟨k8, k8e, hf⟩ := zj_sp hf
        have hj9 : ∀ (M7 : zMem), Fr tX3_attemptAt M M7 → k8 M7 = some Mo → Fr tX3_attemptAt M Mo := by
          intro M7 hM hf
          rw [k8e] at hf
          obtain ⟨h18, hf⟩ := zc_sp hf
          obtain ⟨M19, M19e, hf⟩ := zn_sp hf
          have hM := M19e ▸ (Fr_wA hM (c := 25) rfl)
          clear M19e
          obtain ⟨h20, hf⟩ := zc_sp hf
          obtain ⟨M21, M21e, hf⟩ := zn_sp hf
          have hM := M21e ▸ (Fr_wA hM (c := 24) rfl)
          clear M21e
          obtain ⟨M22, M22e, hf⟩ := zn_sp hf
          have hM := M22e ▸ (Fr_wF hM rfl)
          clear M22e
          exact Fr_eM hf hM
        clear k8e
        by_cases h17 : (M6 22 3) = 0
        · have hf := zt h17 hf
          obtain ⟨M10, M10e, hf⟩ := zn_sp hf
          have hM := M10e ▸ (Fr_wF hM rfl)
          clear M10e
          obtain ⟨M11, M11e, hf⟩ := zn_sp hf
          have hM := M11e ▸ (Fr_wF hM rfl)
          clear M11e
          exact hj9 _ hM hf
        · have hf := zf h17 hf
          obtain ⟨r13, h12, hf⟩ := zb1_sp hf
          by_cases h16 : r13 = 0
          · have hf := zt h16 hf
            exact hj9 _ hM hf
          · have hf := zf h16 hf
            obtain ⟨M14, M14e, hf⟩ := zn_sp hf
            have hM := M14e ▸ (Fr_wF hM rfl)
            clear M14e
            obtain ⟨M15, M15e, hf⟩ := zn_sp hf
            have hM := M15e ▸ (Fr_wF hM rfl)
            clear M15e
            exact hj9 _ hM hf
      · have hf := zf h23 hf
        exact Fr_eM hf hM
    · have hf := zf h24 hf
      exact Fr_eM hf hM
def tX3_tryAll : List (Nat × Nat) := [(22, 3), (22, 4), (22, 5), (23, 99999), (24, 99999), (25, 99999)]
set_option maxRecDepth 100000 in
theorem frX3_tryAll_L7 {p2 : Int32} {x3 : Int32} {M4 : zMem}  {w} (hf : fX3_tryAll_L7 p2 x3 M4 = some w) : Fr tX3_tryAll M4 (Sum.elim (fun a => a.2) (fun a => a.2) w) := by
  have hM : Fr tX3_tryAll M4 M4 := Fr_rf
  unfold fX3_tryAll_L7 at hf
  by_cases h1010 : (16 : Int32) < x3
  · have hf := zt h1010 hf
    exact Fr_el (g := Sum.elim (fun a => a.2) (fun a => a.2)) hf hM
  · have hf := zf h1010 hf
    obtain ⟨M1009, h1008, hf⟩ := zb1_sp hf
    have hM := Fr_tr hM (Fr_sub (by decide) (frX3_attemptAt  h1008))
    exact Fr_el (g := Sum.elim (fun a => a.2) (fun a => a.2)) hf hM
set_option maxRecDepth 100000 in
theorem frX3_tryAll {p2 : Int32} {M : zMem} {Mo : zMem}  (hf : fX3_tryAll p2 M = some Mo) : Fr tX3_tryAll M Mo := by
  have hM : Fr tX3_tryAll M M := Fr_rf
  unfold fX3_tryAll at hf
  obtain ⟨M2, h1, hf⟩ := zb1_sp hf
  have hM := Fr_tr hM (Fr_sub (by decide) (frX3_begin  h1))
  obtain ⟨b5, hb6, hf⟩ := zb1_sp hf
  have hM := Fr_tr hM (zlp_fr (mem := (fun a => a.2)) (memb := (fun a => a.2)) (T := tX3_tryAll) (fun a w hw => frX3_tryAll_L7  hw) _ _ _ hb6)
  obtain ⟨x7, M8⟩ := b5
  exact Fr_eM hf hM
def tX3_search : List (Nat × Nat) := [(22, 3), (22, 4), (22, 5), (23, 99999), (24, 99999), (25, 99999)]
set_option maxRecDepth 100000 in
theorem frX3_search_L7 {p2 : Int32} {x3 : Int32} {M4 : zMem}  {w} (hf : fX3_search_L7 p2 x3 M4 = some w) : Fr tX3_search M4 (Sum.elim (fun a => a.2) (fun a => a.2) w) := by
  have hM : Fr tX3_search M4 M4 := Fr_rf
  unfold fX3_search_L7 at hf
  by_cases h1010 : (16 : Int32) < x3
  · have hf := zt h1010 hf
    exact Fr_el (g := Sum.elim (fun a => a.2) (fun a => a.2)) hf hM
  · have hf := zf h1010 hf
    obtain ⟨M1009, h1008, hf⟩ := zb1_sp hf
    have hM := Fr_tr hM (Fr_sub (by decide) (frX3_attemptAt  h1008))
    exact Fr_el (g := Sum.elim (fun a => a.2) (fun a => a.2)) hf hM
set_option maxRecDepth 100000 in
theorem frX3_search_L28 {p2 : Int32} {x17 : Int32} {M18 : zMem}  {w} (hf : fX3_search_L28 p2 x17 M18 = some w) : Fr tX3_search M18 (Sum.elim (fun a => a.2) (fun a => a.2) w) := by
  have hM : Fr tX3_search M18 M18 := Fr_rf
  unfold fX3_search_L28 at hf
  by_cases h1035 : x17 < (1 : Int32)
  · have hf := zt h1035 hf
    exact Fr_el (g := Sum.elim (fun a => a.2) (fun a => a.2)) hf hM
  · have hf := zf h1035 hf
    obtain ⟨x1029, -, hf⟩ := zn_sp hf
    obtain ⟨M1031, h1030, hf⟩ := zb1_sp hf
    have hM := Fr_tr hM (Fr_sub (by decide) (frX3_attemptAt  h1030))
    obtain ⟨M1033, h1032, hf⟩ := zb1_sp hf
    have hM := Fr_tr hM (Fr_sub (by decide) (frX3_attemptAt  h1032))
    obtain ⟨x1034, -, hf⟩ := zn_sp hf
    exact Fr_el (g := Sum.elim (fun a => a.2) (fun a => a.2)) hf hM
set_option maxRecDepth 100000 in
theorem frX3_search {p2 : Int32} {M : zMem} {Mo : zMem}  (hf : fX3_search p2 M = some Mo) : Fr tX3_search M Mo := by
  have hM : Fr tX3_search M M := Fr_rf
  unfold fX3_search at hf
  obtain ⟨M2, h1, hf⟩ := zb1_sp hf
  have hM := Fr_tr hM (Fr_sub (by decide) (frX3_begin  h1))
  obtain ⟨b5, hb6, hf⟩ := zb1_sp hf
  have hM := Fr_tr hM (zlp_fr (mem := (fun a => a.2)) (memb := (fun a => a.2)) (T := tX3_search) (fun a w hw => frX3_search_L7  hw) _ _ _ hb6)
  obtain ⟨x7, M8⟩ := b5
  obtain ⟨b11, hb12, hf⟩ := zb1_sp hf
  have hM := Fr_tr hM (zlp_fr (mem := (fun a => a.2)) (memb := (fun a => a.2)) (T := tX3_search) (fun a w hw => frX3_search_L28  hw) _ _ _ hb12)
  obtain ⟨x13, M14⟩ := b11
  exact Fr_eM hf hM
def tX4_draw : List (Nat × Nat) := [(2, 99999)]
set_option maxRecDepth 100000 in
theorem frX4_draw {p1 : Int32} {p2 : Int32} {p3 : Int32} {M : zMem} {Mo : zMem}  (hf : fX4_draw p1 p2 p3 M = some Mo) : Fr tX4_draw M Mo := by
  have hM : Fr tX4_draw M M := Fr_rf
  unfold fX4_draw at hf
  obtain ⟨r2, h1, hf⟩ := zb1_sp hf
  by_cases h15 : r2 = 0
  · have hf := zt h15 hf
    exact Fr_eM hf hM
  · have hf := zf h15 hf
    obtain ⟨r4, h3, hf⟩ := zb1_sp hf
    by_cases h14 : r4 = 0
    · have hf := zt h14 hf
      exact Fr_eM hf hM
    · have hf := zf h14 hf
      obtain ⟨x5, -, hf⟩ := zn_sp hf
      obtain ⟨k7, k7e, hf⟩ := zj_sp hf
      have hj8 : ∀ (x6 : Int32), k7 x6 = some Mo → Fr tX4_draw M Mo := by
        intro x6 hf
        rw [k7e] at hf
        obtain ⟨h12, hf⟩ := zc_sp hf
        obtain ⟨M13, M13e, hf⟩ := zn_sp hf
        have hM := M13e ▸ (Fr_wA hM (c := 2) rfl)
        clear M13e
        exact Fr_eM hf hM
      clear k7e
      by_cases h11 : p3 = 0
      · have hf := zt h11 hf
        obtain ⟨h9, hf⟩ := zc_sp hf
        exact hj8 _ hf
      · have hf := zf h11 hf
        obtain ⟨h10, hf⟩ := zc_sp hf
        exact hj8 _ hf
def tX4_forgetMoves : List (Nat × Nat) := [(1, 4)]
set_option maxRecDepth 100000 in
theorem frX4_forgetMoves {M : zMem} {Mo : zMem}  (hf : fX4_forgetMoves M = some Mo) : Fr tX4_forgetMoves M Mo := by
  have hM : Fr tX4_forgetMoves M M := Fr_rf
  unfold fX4_forgetMoves at hf
  obtain ⟨M1, M1e, hf⟩ := zn_sp hf
  have hM := M1e ▸ (Fr_wF hM rfl)
  clear M1e
  exact Fr_eM hf hM
def tX4_renew : List (Nat × Nat) := [(1, 3), (1, 4), (2, 99999)]
set_option maxRecDepth 100000 in
theorem frX4_renew {p1 : Int32} {M : zMem} {Mo : zMem}  (hf : fX4_renew p1 M = some Mo) : Fr tX4_renew M Mo := by
  have hM : Fr tX4_renew M M := Fr_rf
  unfold fX4_renew at hf
  obtain ⟨M1, M1e, hf⟩ := zn_sp hf
  have hM := M1e ▸ (Fr_wF hM rfl)
  clear M1e
  obtain ⟨M3, h2, hf⟩ := zb1_sp hf
  have hM := Fr_tr hM (Fr_sub (by intro e he; simp [tJ7_fill_53178] at he; subst he; decide) (frJ7_fill_53178 h2))
  obtain ⟨M5, h4, hf⟩ := zb1_sp hf
  have hM := Fr_tr hM (Fr_sub (by decide) (frX4_forgetMoves  h4))
  exact Fr_eM hf hM
def tX4_takeBack : List (Nat × Nat) := [(1, 4), (1, 5), (2, 99999)]
set_option maxRecDepth 100000 in
theorem frX4_takeBack {M : zMem} {Mo : zMem}  (hf : fX4_takeBack M = some Mo) : Fr tX4_takeBack M Mo := by
  have hM : Fr tX4_takeBack M M := Fr_rf
  unfold fX4_takeBack at hf
  by_cases h6 : (M 1 4) = 0
  · have hf := zt h6 hf
    exact Fr_eM hf hM
  · have hf := zf h6 hf
    obtain ⟨M1, M1e, hf⟩ := zn_sp hf
    have hM := M1e ▸ (Fr_wF hM rfl)
    clear M1e
    obtain ⟨M2, M2e, hf⟩ := zn_sp hf
    have hM := M2e ▸ (Fr_wF hM rfl)
    clear M2e
    obtain ⟨h3, hf⟩ := zc_sp hf
    obtain ⟨h4, hf⟩ := zc_sp hf
    obtain ⟨M5, M5e, hf⟩ := zn_sp hf
    have hM := M5e ▸ (Fr_wa hM (c := 2) rfl)
    clear M5e
    exact Fr_eM hf hM
def tX4_finishMove : List (Nat × Nat) := [(1, 4), (1, 5), (2, 99999), (5, 99999), (6, 99999), (7, 99999), (8, 99999), (9, 99999), (10, 99999), (11, 99999), (12, 99999)]
set_option maxRecDepth 100000 in
theorem frX4_finishMove {M : zMem} {Mo : zMem}  (hf : fX4_finishMove M = some Mo) : Fr tX4_finishMove M Mo := by
  have hM : Fr tX4_finishMove M M := Fr_rf
  unfold fX4_finishMove at hf
  obtain ⟨h1, hf⟩ := zc_sp hf
  obtain ⟨h2, hf⟩ := zc_sp hf
  obtain ⟨M3, M3e, hf⟩ := zn_sp hf
  have hM := M3e ▸ (Fr_wa hM ((by decide : ∀ j, j < 8 → tinA tX4_finishMove (5 + j) = true) _ (zin_lt h1)))
  clear M3e
  obtain ⟨h4, hf⟩ := zc_sp hf
  obtain ⟨M5, M5e, hf⟩ := zn_sp hf
  have hM := M5e ▸ (Fr_wa hM (c := 2) rfl)
  clear M5e
  obtain ⟨M6, M6e, hf⟩ := zn_sp hf
  have hM := M6e ▸ (Fr_wF hM rfl)
  clear M6e
  obtain ⟨M7, M7e, hf⟩ := zn_sp hf
  have hM := M7e ▸ (Fr_wF hM rfl)
  clear M7e
  exact Fr_eM hf hM
def tX4_slideColumns : List (Nat × Nat) := [(1, 4), (1, 5), (2, 99999), (3, 99999), (5, 99999), (6, 99999), (7, 99999), (8, 99999), (9, 99999), (10, 99999), (11, 99999), (12, 99999)]
set_option maxRecDepth 100000 in
theorem frX4_slideColumns_L4 {x1 : Int32} {x2 : Int32} {M3 : zMem}  {w} (hf : fX4_slideColumns_L4 x1 x2 M3 = some w) : Fr tX4_slideColumns M3 (Sum.elim (fun a => a.2.2) (Sum.elim (fun a => a.2.2) (fun r => r.2)) w) := by
  have hM : Fr tX4_slideColumns M3 M3 := Fr_rf
  unfold fX4_slideColumns_L4 at hf
  by_cases h1021 : (M3 1 3) ≤ x1
  · have hf := zt h1021 hf
    exact Fr_el (g := Sum.elim (fun a => a.2.2) (Sum.elim (fun a => a.2.2) (fun r => r.2))) hf hM
  · have hf := zf h1021 hf
    by_cases h1020 : (32 : Int32) ≤ x1
    · have hf := zt h1020 hf
      exact Fr_el (g := Sum.elim (fun a => a.2.2) (Sum.elim (fun a => a.2.2) (fun r => r.2))) hf hM
    · have hf := zf h1020 hf
      obtain ⟨h1005, hf⟩ := zc_sp hf
      obtain ⟨h1006, hf⟩ := zc_sp hf
      obtain ⟨r1008, h1007, hf⟩ := zb1_sp hf
      obtain ⟨h1009, hf⟩ := zc_sp hf
      obtain ⟨M1010, M1010e, hf⟩ := zn_sp hf
      have hM := M1010e ▸ (Fr_wA hM (c := 3) rfl)
      clear M1010e
      obtain ⟨h1011, hf⟩ := zc_sp hf
      obtain ⟨r1013, h1012, hf⟩ := zb1_sp hf
      obtain ⟨h1014, hf⟩ := zc_sp hf
      obtain ⟨r1016, h1015, hf⟩ := zb1_sp hf
      by_cases h1019 : r1016 = r1013
      · have hf := zt h1019 hf
        obtain ⟨h1017, hf⟩ := zc_sp hf
        obtain ⟨x1018, -, hf⟩ := zn_sp hf
        exact Fr_el (g := Sum.elim (fun a => a.2.2) (Sum.elim (fun a => a.2.2) (fun r => r.2))) hf hM
      · have hf := zf h1019 hf
        exact Fr_el (g := Sum.elim (fun a => a.2.2) (Sum.elim (fun a => a.2.2) (fun r => r.2))) hf hM
set_option maxRecDepth 100000 in
theorem frX4_slideColumns {M : zMem} {ro : Int32} {Mo : zMem}  (hf : fX4_slideColumns M = some (ro, Mo)) : Fr tX4_slideColumns M Mo := by
  have hM : Fr tX4_slideColumns M M := Fr_rf
  unfold fX4_slideColumns at hf
  obtain ⟨b4, hb5, hf⟩ := zbr_sp hf
  have hM := Fr_tr hM (zlp_fr (mem := (fun a => a.2.2)) (memb := (Sum.elim (fun a => a.2.2) (fun r => r.2))) (T := tX4_slideColumns) (fun a w hw => frX4_slideColumns_L4  hw) _ _ _ hb5)
  rcases b4 with b4 | b4
  · obtain ⟨x6, x7, M8⟩ := b4
    obtain ⟨M10, h9, hf⟩ := zb1_sp hf
    have hM := Fr_tr hM (Fr_sub (by decide) (frX4_finishMove  h9))
    exact Fr_eiM hf hM
  · obtain ⟨r11, r12⟩ := b4
    exact Fr_eiM hf hM
def tX4_slideRows : List (Nat × Nat) := [(1, 4), (1, 5), (2, 99999), (3, 99999), (5, 99999), (6, 99999), (7, 99999), (8, 99999), (9, 99999), (10, 99999), (11, 99999), (12, 99999)]
set_option maxRecDepth 100000 in
theorem frX4_slideRows_L27 {x3 : Int32} {x13 : Int32} {x14 : Int32} {M15 : zMem}  {w} (hf : fX4_slideRows_L27 x3 x13 x14 M15 = some w) : Fr tX4_slideRows M15 (Sum.elim (fun a => a.2.2) (Sum.elim (fun a => a.2.2) (fun r => r.2)) w) := by
  have hM : Fr tX4_slideRows M15 M15 := Fr_rf
  unfold fX4_slideRows_L27 at hf
  by_cases h1041 : (M15 1 3) ≤ x13
  · have hf := zt h1041 hf
    exact Fr_el (g := Sum.elim (fun a => a.2.2) (Sum.elim (fun a => a.2.2) (fun r => r.2))) hf hM
  · have hf := zf h1041 hf
    obtain ⟨r1029, h1028, hf⟩ := zb1_sp hf
    by_cases h1040 : r1029 = 0
    · have hf := zt h1040 hf
      exact Fr_el (g := Sum.elim (fun a => a.2.2) (Sum.elim (fun a => a.2.2) (fun r => r.2))) hf hM
    · have hf := zf h1040 hf
      obtain ⟨h1030, hf⟩ := zc_sp hf
      obtain ⟨x1031, -, hf⟩ := zn_sp hf
      obtain ⟨r1033, h1032, hf⟩ := zb1_sp hf
      by_cases h1039 : r1033 = 0
      · have hf := zt h1039 hf
        exact Fr_el (g := Sum.elim (fun a => a.2.2) (Sum.elim (fun a => a.2.2) (fun r => r.2))) hf hM
      · have hf := zf h1039 hf
        obtain ⟨h1034, hf⟩ := zc_sp hf
        obtain ⟨h1035, hf⟩ := zc_sp hf
        obtain ⟨M1036, M1036e, hf⟩ := zn_sp hf
        have hM := M1036e ▸ (Fr_wA hM (c := 3) rfl)
        clear M1036e
        obtain ⟨h1037, hf⟩ := zc_sp hf
        obtain ⟨x1038, -, hf⟩ := zn_sp hf
        exact Fr_el (g := Sum.elim (fun a => a.2.2) (Sum.elim (fun a => a.2.2) (fun r => r.2))) hf hM
set_option maxRecDepth 100000 in
theorem frX4_slideRows_L12 {x3 : Int32} {x4 : Int32} {M5 : zMem}  {w} (hf : fX4_slideRows_L12 x3 x4 M5 = some w) : Fr tX4_slideRows M5 (Sum.elim (fun a => a.2.2) (Sum.elim (fun a => a.2.2) (fun r => r.2)) w) := by
  have hM : Fr tX4_slideRows M5 M5 := Fr_rf
  unfold fX4_slideRows_L12 at hf
  by_cases h1024 : (32 : Int32) ≤ x3
  · have hf := zt h1024 hf
    exact Fr_el (g := Sum.elim (fun a => a.2.2) (Sum.elim (fun a => a.2.2) (fun r => r.2))) hf hM
  · have hf := zf h1024 hf
    by_cases h1023 : (32 : Int32) ≤ x3
    · have hf := zt h1023 hf
      exact Fr_el (g := Sum.elim (fun a => a.2.2) (Sum.elim (fun a => a.2.2) (fun r => r.2))) hf hM
    · have hf := zf h1023 hf
      obtain ⟨b1016, hb1017, hf⟩ := zbr_sp hf
      have hM := Fr_tr hM (zlp_fr (mem := (fun a => a.2.2)) (memb := (Sum.elim (fun a => a.2.2) (fun r => r.2))) (T := tX4_slideRows) (fun a w hw => frX4_slideRows_L27  hw) _ _ _ hb1017)
      rcases b1016 with b1016 | b1016
      · obtain ⟨x1018, x1019, M1020⟩ := b1016
        exact Fr_el (g := Sum.elim (fun a => a.2.2) (Sum.elim (fun a => a.2.2) (fun r => r.2))) hf hM
      · obtain ⟨r1021, r1022⟩ := b1016
        exact Fr_el (g := Sum.elim (fun a => a.2.2) (Sum.elim (fun a => a.2.2) (fun r => r.2))) hf hM
set_option maxRecDepth 100000 in
theorem frX4_slideRows {M : zMem} {ro : Int32} {Mo : zMem}  (hf : fX4_slideRows M = some (ro, Mo)) : Fr tX4_slideRows M Mo := by
  have hM : Fr tX4_slideRows M M := Fr_rf
  unfold fX4_slideRows at hf
  obtain ⟨M2, h1, hf⟩ := zb1_sp hf
  have hM := Fr_tr hM (Fr_sub (by intro e he; simp [tJ7_fill_53178] at he; subst he; decide) (frJ7_fill_53178 h1))
  obtain ⟨b6, hb7, hf⟩ := zbr_sp hf
  have hM := Fr_tr hM (zlp_fr (mem := (fun a => a.2.2)) (memb := (Sum.elim (fun a => a.2.2) (fun r => r.2))) (T := tX4_slideRows) (fun a w hw => frX4_slideRows_L12  hw) _ _ _ hb7)
  rcases b6 with b6 | b6
  · obtain ⟨x8, x9, M10⟩ := b6
    obtain ⟨M12, h11, hf⟩ := zb1_sp hf
    have hM := Fr_tr hM (Fr_sub (by decide) (frX4_finishMove  h11))
    exact Fr_eiM hf hM
  · obtain ⟨r13, r14⟩ := b6
    exact Fr_eiM hf hM
def tX5_addRuns : List (Nat × Nat) := [(26, 5), (27, 99999), (28, 99999), (29, 99999), (30, 99999)]
set_option maxRecDepth 100000 in
theorem frX5_addRuns_L5 {p2 : Int32} {x1 : Int32} {x2 : Int32} {M3 : zMem}  {w} (hf : fX5_addRuns_L5 p2 x1 x2 M3 = some w) : Fr tX5_addRuns M3 (Sum.elim (fun a => a.2.2) (fun a => a.2.2) w) := by
  have hM : Fr tX5_addRuns M3 M3 := Fr_rf
  unfold fX5_addRuns_L5 at hf
  obtain ⟨r1007, h1006, hf⟩ := zb1_sp hf
  by_cases h1030 : r1007 ≤ x1
  · have hf := zt h1030 hf
    exact Fr_el (g := Sum.elim (fun a => a.2.2) (fun a => a.2.2)) hf hM
  · have hf := zf h1030 hf
    obtain ⟨r1009, h1008, hf⟩ := zb1_sp hf
    obtain ⟨k1011, k1011e, hf⟩ := zj_sp hf
    have hj1012 : ∀ (M1010 : zMem), Fr tX5_addRuns M3 M1010 → k1011 M1010 = some w → Fr tX5_addRuns M3 (Sum.elim (fun a => a.2.2) (fun a => a.2.2) w) := by
      intro M1010 hM hf
      rw [k1011e] at hf
      obtain ⟨k1024, k1024e, hf⟩ := zj_sp hf
      have hj1025 : ∀ (M1023 : zMem), Fr tX5_addRuns M3 M1023 → k1024 M1023 = some w → Fr tX5_addRuns M3 (Sum.elim (fun a => a.2.2) (fun a => a.2.2) w) := by
        intro M1023 hM hf
        rw [k1024e] at hf
        exact Fr_el (g := Sum.elim (fun a => a.2.2) (fun a => a.2.2)) hf hM
      clear k1024e
      by_cases h1029 : r1009 = 0
      · have hf := zt h1029 hf
        exact hj1025 _ hM hf
      · have hf := zf h1029 hf
        by_cases h1028 : (M1010 26 5) ≤ 0
        · have hf := zt h1028 hf
          exact hj1025 _ hM hf
        · have hf := zf h1028 hf
          obtain ⟨h1026, hf⟩ := zc_sp hf
          obtain ⟨M1027, M1027e, hf⟩ := zn_sp hf
          have hM := M1027e ▸ (Fr_wA hM (c := 29) rfl)
          clear M1027e
          exact hj1025 _ hM hf
    clear k1011e
    by_cases h1022 : r1009 = 0
    · have hf := zt h1022 hf
      exact hj1012 _ hM hf
    · have hf := zf h1022 hf
      by_cases h1021 : x2 = 0
      · have hf := zt h1021 hf
        by_cases h1020 : (384 : Int32) ≤ (M3 26 5)
        · have hf := zt h1020 hf
          exact hj1012 _ hM hf
        · have hf := zf h1020 hf
          obtain ⟨h1013, hf⟩ := zc_sp hf
          obtain ⟨M1014, M1014e, hf⟩ := zn_sp hf
          have hM := M1014e ▸ (Fr_wA hM (c := 27) rfl)
          clear M1014e
          obtain ⟨h1015, hf⟩ := zc_sp hf
          obtain ⟨M1016, M1016e, hf⟩ := zn_sp hf
          have hM := M1016e ▸ (Fr_wA hM (c := 28) rfl)
          clear M1016e
          obtain ⟨h1017, hf⟩ := zc_sp hf
          obtain ⟨M1018, M1018e, hf⟩ := zn_sp hf
          have hM := M1018e ▸ (Fr_wA hM (c := 30) rfl)
          clear M1018e
          obtain ⟨M1019, M1019e, hf⟩ := zn_sp hf
          have hM := M1019e ▸ (Fr_wF hM rfl)
          clear M1019e
          exact hj1012 _ hM hf
      · have hf := zf h1021 hf
        exact hj1012 _ hM hf
set_option maxRecDepth 100000 in
theorem frX5_addRuns {p2 : Int32} {M : zMem} {Mo : zMem}  (hf : fX5_addRuns p2 M = some Mo) : Fr tX5_addRuns M Mo := by
  have hM : Fr tX5_addRuns M M := Fr_rf
  unfold fX5_addRuns at hf
  obtain ⟨b4, hb5, hf⟩ := zb1_sp hf
  have hM := Fr_tr hM (zlp_fr (mem := (fun a => a.2.2)) (memb := (fun a => a.2.2)) (T := tX5_addRuns) (fun a w hw => frX5_addRuns_L5  hw) _ _ _ hb5)
  obtain ⟨x6, x7, M8⟩ := b4
  exact Fr_eM hf hM
def tX5_join : List (Nat × Nat) := [(30, 99999)]
set_option maxRecDepth 100000 in
theorem frX5_join {p1 : Int32} {p2 : Int32} {M : zMem} {Mo : zMem}  (hf : fX5_join p1 p2 M = some Mo) : Fr tX5_join M Mo := by
  have hM : Fr tX5_join M M := Fr_rf
  unfold fX5_join at hf
  obtain ⟨r2, h1, hf⟩ := zb1_sp hf
  obtain ⟨r4, h3, hf⟩ := zb1_sp hf
  obtain ⟨h5, hf⟩ := zc_sp hf
  obtain ⟨M6, M6e, hf⟩ := zn_sp hf
  have hM := M6e ▸ (Fr_wA hM (c := 30) rfl)
  clear M6e
  exact Fr_eM hf hM
def tX5_linkRows : List (Nat × Nat) := [(30, 99999)]
set_option maxRecDepth 100000 in
theorem frX5_linkRows_L10 {x1 : Int32} {x10 : Int32} {M11 : zMem}  {w} (hf : fX5_linkRows_L10 x1 x10 M11 = some w) : Fr tX5_linkRows M11 (Sum.elim (fun a => a.2) (fun a => a.2) w) := by
  have hM : Fr tX5_linkRows M11 M11 := Fr_rf
  unfold fX5_linkRows_L10 at hf
  by_cases h1022 : (M11 26 5) ≤ x10
  · have hf := zt h1022 hf
    exact Fr_el (g := Sum.elim (fun a => a.2) (fun a => a.2)) hf hM
  · have hf := zf h1022 hf
    obtain ⟨h1011, hf⟩ := zc_sp hf
    obtain ⟨h1012, hf⟩ := zc_sp hf
    obtain ⟨k1014, k1014e, hf⟩ := zj_sp hf
    have hj1015 : ∀ (M1013 : zMem), Fr tX5_linkRows M11 M1013 → k1014 M1013 = some w → Fr tX5_linkRows M11 (Sum.elim (fun a => a.2) (fun a => a.2) w) := by
      intro M1013 hM hf
      rw [k1014e] at hf
      exact Fr_el (g := Sum.elim (fun a => a.2) (fun a => a.2)) hf hM
    clear k1014e
    by_cases h1021 : ((M11 29 x10.toNatClampNeg) + (1 : Int32)) < (M11 28 x1.toNatClampNeg)
    · have hf := zt h1021 hf
      exact hj1015 _ hM hf
    · have hf := zf h1021 hf
      obtain ⟨h1016, hf⟩ := zc_sp hf
      obtain ⟨h1017, hf⟩ := zc_sp hf
      by_cases h1020 : ((M11 29 x1.toNatClampNeg) + (1 : Int32)) < (M11 28 x10.toNatClampNeg)
      · have hf := zt h1020 hf
        exact hj1015 _ hM hf
      · have hf := zf h1020 hf
        obtain ⟨M1019, h1018, hf⟩ := zb1_sp hf
        have hM := Fr_tr hM (Fr_sub (by decide) (frX5_join  h1018))
        exact hj1015 _ hM hf
set_option maxRecDepth 100000 in
theorem frX5_linkRows_L2 {p2 : Int32} {x1 : Int32} {M2 : zMem}  {w} (hf : fX5_linkRows_L2 p2 x1 M2 = some w) : Fr tX5_linkRows M2 (Sum.elim (fun a => a.2) (fun a => a.2) w) := by
  have hM : Fr tX5_linkRows M2 M2 := Fr_rf
  unfold fX5_linkRows_L2 at hf
  by_cases h1009 : p2 ≤ x1
  · have hf := zt h1009 hf
    exact Fr_el (g := Sum.elim (fun a => a.2) (fun a => a.2)) hf hM
  · have hf := zf h1009 hf
    obtain ⟨b1005, hb1006, hf⟩ := zb1_sp hf
    have hM := Fr_tr hM (zlp_fr (mem := (fun a => a.2)) (memb := (fun a => a.2)) (T := tX5_linkRows) (fun a w hw => frX5_linkRows_L10  hw) _ _ _ hb1006)
    obtain ⟨x1007, M1008⟩ := b1005
    exact Fr_el (g := Sum.elim (fun a => a.2) (fun a => a.2)) hf hM
set_option maxRecDepth 100000 in
theorem frX5_linkRows {p1 : Int32} {p2 : Int32} {M : zMem} {Mo : zMem}  (hf : fX5_linkRows p1 p2 M = some Mo) : Fr tX5_linkRows M Mo := by
  have hM : Fr tX5_linkRows M M := Fr_rf
  unfold fX5_linkRows at hf
  obtain ⟨b3, hb4, hf⟩ := zb1_sp hf
  have hM := Fr_tr hM (zlp_fr (mem := (fun a => a.2)) (memb := (fun a => a.2)) (T := tX5_linkRows) (fun a w hw => frX5_linkRows_L2  hw) _ _ _ hb4)
  obtain ⟨x5, M6⟩ := b3
  exact Fr_eM hf hM
def tX5_numberStrokes : List (Nat × Nat) := [(26, 6), (31, 99999)]
set_option maxRecDepth 100000 in
theorem frX5_numberStrokes_L7 {x2 : Int32} {M3 : zMem}  {w} (hf : fX5_numberStrokes_L7 x2 M3 = some w) : Fr tX5_numberStrokes M3 (Sum.elim (fun a => a.2) (fun a => a.2) w) := by
  have hM : Fr tX5_numberStrokes M3 M3 := Fr_rf
  unfold fX5_numberStrokes_L7 at hf
  by_cases h1020 : (M3 26 5) ≤ x2
  · have hf := zt h1020 hf
    exact Fr_el (g := Sum.elim (fun a => a.2) (fun a => a.2)) hf hM
  · have hf := zf h1020 hf
    obtain ⟨h1008, hf⟩ := zc_sp hf
    obtain ⟨k1010, k1010e, hf⟩ := zj_sp hf
    have hj1011 : ∀ (M1009 : zMem), Fr tX5_numberStrokes M3 M1009 → k1010 M1009 = some w → Fr tX5_numberStrokes M3 (Sum.elim (fun a => a.2) (fun a => a.2) w) := by
      intro M1009 hM hf
      rw [k1010e] at hf
      exact Fr_el (g := Sum.elim (fun a => a.2) (fun a => a.2)) hf hM
    clear k1010e
    by_cases h1019 : (M3 30 x2.toNatClampNeg) = x2
    · have hf := zt h1019 hf
      obtain ⟨h1016, hf⟩ := zc_sp hf
      obtain ⟨M1017, M1017e, hf⟩ := zn_sp hf
      have hM := M1017e ▸ (Fr_wA hM (c := 31) rfl)
      clear M1017e
      obtain ⟨M1018, M1018e, hf⟩ := zn_sp hf
      have hM := M1018e ▸ (Fr_wF hM rfl)
      clear M1018e
      exact hj1011 _ hM hf
    · have hf := zf h1019 hf
      obtain ⟨h1012, hf⟩ := zc_sp hf
      obtain ⟨h1013, hf⟩ := zc_sp hf
      obtain ⟨h1014, hf⟩ := zc_sp hf
      obtain ⟨M1015, M1015e, hf⟩ := zn_sp hf
      have hM := M1015e ▸ (Fr_wA hM (c := 31) rfl)
      clear M1015e
      exact hj1011 _ hM hf
set_option maxRecDepth 100000 in
theorem frX5_numberStrokes {M : zMem} {Mo : zMem}  (hf : fX5_numberStrokes M = some Mo) : Fr tX5_numberStrokes M Mo := by
  have hM : Fr tX5_numberStrokes M M := Fr_rf
  unfold fX5_numberStrokes at hf
  obtain ⟨M1, M1e, hf⟩ := zn_sp hf
  have hM := M1e ▸ (Fr_wF hM rfl)
  clear M1e
  obtain ⟨b4, hb5, hf⟩ := zb1_sp hf
  have hM := Fr_tr hM (zlp_fr (mem := (fun a => a.2)) (memb := (fun a => a.2)) (T := tX5_numberStrokes) (fun a w hw => frX5_numberStrokes_L7  hw) _ _ _ hb5)
  obtain ⟨x6, M7⟩ := b4
  exact Fr_eM hf hM
def tX5_find : List (Nat × Nat) := [(26, 5), (26, 6), (27, 99999), (28, 99999), (29, 99999), (30, 99999), (31, 99999)]
set_option maxRecDepth 100000 in
theorem frX5_find_L9 {x2 : Int32} {x3 : Int32} {M4 : zMem}  {w} (hf : fX5_find_L9 x2 x3 M4 = some w) : Fr tX5_find M4 (Sum.elim (fun a => a.2.2) (fun a => a.2.2) w) := by
  have hM : Fr tX5_find M4 M4 := Fr_rf
  unfold fX5_find_L9 at hf
  by_cases h1015 : (32 : Int32) ≤ x2
  · have hf := zt h1015 hf
    exact Fr_el (g := Sum.elim (fun a => a.2.2) (fun a => a.2.2)) hf hM
  · have hf := zf h1015 hf
    obtain ⟨x1010, -, hf⟩ := zn_sp hf
    obtain ⟨M1012, h1011, hf⟩ := zb1_sp hf
    have hM := Fr_tr hM (Fr_sub (by decide) (frX5_addRuns  h1011))
    obtain ⟨M1014, h1013, hf⟩ := zb1_sp hf
    have hM := Fr_tr hM (Fr_sub (by decide) (frX5_linkRows  h1013))
    exact Fr_el (g := Sum.elim (fun a => a.2.2) (fun a => a.2.2)) hf hM
set_option maxRecDepth 100000 in
theorem frX5_find {M : zMem} {Mo : zMem}  (hf : fX5_find M = some Mo) : Fr tX5_find M Mo := by
  have hM : Fr tX5_find M M := Fr_rf
  unfold fX5_find at hf
  obtain ⟨M1, M1e, hf⟩ := zn_sp hf
  have hM := M1e ▸ (Fr_wF hM rfl)
  clear M1e
  obtain ⟨b5, hb6, hf⟩ := zb1_sp hf
  have hM := Fr_tr hM (zlp_fr (mem := (fun a => a.2.2)) (memb := (fun a => a.2.2)) (T := tX5_find) (fun a w hw => frX5_find_L9  hw) _ _ _ hb6)
  obtain ⟨x7, x8, M9⟩ := b5
  obtain ⟨M11, h10, hf⟩ := zb1_sp hf
  have hM := Fr_tr hM (Fr_sub (by decide) (frX5_numberStrokes  h10))
  exact Fr_eM hf hM
def tX6_page : List (Nat × Nat) := [(1, 3), (1, 4), (2, 99999)]
set_option maxRecDepth 100000 in
theorem frX6_page {p1 : Int32} {M : zMem} {ro : Int32} {Mo : zMem}  (hf : fX6_page p1 M = some (ro, Mo)) : Fr tX6_page M Mo := by
  have hM : Fr tX6_page M M := Fr_rf
  unfold fX6_page at hf
  by_cases h6 : p1 < (1 : Int32)
  · have hf := zt h6 hf
    exact Fr_eiM hf hM
  · have hf := zf h6 hf
    by_cases h5 : p1 ≤ (24 : Int32)
    · have hf := zt h5 hf
      obtain ⟨r2, h1, hf⟩ := zb1_sp hf
      obtain ⟨M4, h3, hf⟩ := zb1_sp hf
      have hM := Fr_tr hM (Fr_sub (by decide) (frX4_renew  h3))
      exact Fr_eiM hf hM
    · have hf := zf h5 hf
      exact Fr_eiM hf hM
def tX6_dot : List (Nat × Nat) := [(1, 4), (2, 99999)]
set_option maxRecDepth 100000 in
theorem frX6_dot {p1 : Int32} {p2 : Int32} {p3 : Int32} {M : zMem} {ro : Int32} {Mo : zMem}  (hf : fX6_dot p1 p2 p3 M = some (ro, Mo)) : Fr tX6_dot M Mo := by
  have hM : Fr tX6_dot M M := Fr_rf
  unfold fX6_dot at hf
  obtain ⟨r2, h1, hf⟩ := zb1_sp hf
  by_cases h22 : r2 = 0
  · have hf := zt h22 hf
    exact Fr_eiM hf hM
  · have hf := zf h22 hf
    obtain ⟨r4, h3, hf⟩ := zb1_sp hf
    by_cases h21 : r4 = 0
    · have hf := zt h21 hf
      exact Fr_eiM hf hM
    · have hf := zf h21 hf
      by_cases h20 : p3 = 0
      · have hf := zt h20 hf
        obtain ⟨r6, h5, hf⟩ := zb1_sp hf
        obtain ⟨x7, -, hf⟩ := zn_sp hf
        obtain ⟨M9, h8, hf⟩ := zb1_sp hf
        have hM := Fr_tr hM (Fr_sub (by decide) (frX4_forgetMoves  h8))
        obtain ⟨M11, h10, hf⟩ := zb1_sp hf
        have hM := Fr_tr hM (Fr_sub (by decide) (frX4_draw  h10))
        exact Fr_eiM hf hM
      · have hf := zf h20 hf
        by_cases h19 : p3 = (1 : Int32)
        · have hf := zt h19 hf
          obtain ⟨r13, h12, hf⟩ := zb1_sp hf
          obtain ⟨x14, -, hf⟩ := zn_sp hf
          obtain ⟨M16, h15, hf⟩ := zb1_sp hf
          have hM := Fr_tr hM (Fr_sub (by decide) (frX4_forgetMoves  h15))
          obtain ⟨M18, h17, hf⟩ := zb1_sp hf
          have hM := Fr_tr hM (Fr_sub (by decide) (frX4_draw  h17))
          exact Fr_eiM hf hM
        · have hf := zf h19 hf
          exact Fr_eiM hf hM
def tX6_failed : List (Nat × Nat) := [(0, 6)]
set_option maxRecDepth 100000 in
theorem frX6_failed {p1 : Int32} {M : zMem} {ro : Int32} {Mo : zMem}  (hf : fX6_failed p1 M = some (ro, Mo)) : Fr tX6_failed M Mo := by
  have hM : Fr tX6_failed M M := Fr_rf
  unfold fX6_failed at hf
  obtain ⟨M1, M1e, hf⟩ := zn_sp hf
  have hM := M1e ▸ (Fr_wF hM rfl)
  clear M1e
  exact Fr_eiM hf hM
def tX6_row : List (Nat × Nat) := [(0, 6), (1, 4), (2, 99999)]
set_option maxRecDepth 100000 in
theorem frX6_row_L51 {p1 : Int32} {p2 : Int32} {x11 : Int32} {M12 : zMem} (hz3 : p2.toNatClampNeg < 4) {w} (hf : fX6_row_L51 p1 p2 x11 M12 = some w) : Fr tX6_row M12 (Sum.elim (fun a => a.2) (fun a => a.2) w) := by
  have hM : Fr tX6_row M12 M12 := Fr_rf
  unfold fX6_row_L51 at hf
  obtain ⟨r1053, h1052, hf⟩ := zb1_sp hf
  by_cases h1065 : r1053 ≤ x11
  · have hf := zt h1065 hf
    exact Fr_el (g := Sum.elim (fun a => a.2) (fun a => a.2)) hf hM
  · have hf := zf h1065 hf
    obtain ⟨r1055, h1054, hf⟩ := zb1_sp hf
    obtain ⟨k1057, k1057e, hf⟩ := zj_sp hf
    have hj1058 : ∀ (x1056 : Int32), k1057 x1056 = some w → Fr tX6_row M12 (Sum.elim (fun a => a.2) (fun a => a.2) w) := by
      intro x1056 hf
      rw [k1057e] at hf
      obtain ⟨M1064, h1063, hf⟩ := zb1_sp hf
      have hM := Fr_tr hM (Fr_sub (by decide) (frX4_draw  h1063))
      exact Fr_el (g := Sum.elim (fun a => a.2) (fun a => a.2)) hf hM
    clear k1057e
    by_cases h1062 : r1055 = 0
    · have hf := zt h1062 hf
      exact hj1058 _ hf
    · have hf := zf h1062 hf
      obtain ⟨r1060, h1059, hf⟩ := zb1_sp hf
      by_cases h1061 : r1060 = 0
      · have hf := zt h1061 hf
        exact hj1058 _ hf
      · have hf := zf h1061 hf
        exact hj1058 _ hf
set_option maxRecDepth 100000 in
theorem frX6_row {p1 : Int32} {p2 : Int32} {M : zMem} {ro : Int32} {Mo : zMem}  (hf : fX6_row p1 p2 M = some (ro, Mo)) : Fr tX6_row M Mo := by
  have hM : Fr tX6_row M M := Fr_rf
  unfold fX6_row at hf
  obtain ⟨M1, M1e, hf⟩ := zn_sp hf
  have hM := M1e ▸ (Fr_wF hM rfl)
  clear M1e
  obtain ⟨r3, h2, hf⟩ := zb1_sp hf
  by_cases h24 : r3 = 0
  · have hf := zt h24 hf
    exact Fr_eiM hf hM
  · have hf := zf h24 hf
    obtain ⟨r5, h4, hf⟩ := zb1_sp hf
    by_cases h23 : r5 = 0
    · have hf := zt h23 hf
      exact Fr_eiM hf hM
    · have hf := zf h23 hf
      obtain ⟨h6, hf⟩ := zc_sp hf
      obtain ⟨r8, h7, hf⟩ := zb1_sp hf
      by_cases h22 : r8 = 0
      · have hf := zt h22 hf
        obtain ⟨M10, h9, hf⟩ := zb1_sp hf
        have hM := Fr_tr hM (Fr_sub (by decide) (frX4_forgetMoves  h9))
        obtain ⟨b13, hb14, hf⟩ := zb1_sp hf
        have hM := Fr_tr hM (zlp_fr (mem := (fun a => a.2)) (memb := (fun a => a.2)) (T := tX6_row) (fun a w hw => frX6_row_L51 (zin_lt h6) hw) _ _ _ hb14)
        obtain ⟨x15, M16⟩ := b13
        obtain ⟨r18, h17, hf⟩ := zb1_sp hf
        exact Fr_eiM hf hM
      · have hf := zf h22 hf
        obtain ⟨r20, M21, h19, hf⟩ := zb2_sp hf
        have hM := Fr_tr hM (Fr_sub (by decide) (frX6_failed  h19))
        exact Fr_eiM hf hM
def tX6_take : List (Nat × Nat) := [(14, 1), (14, 2), (15, 1), (15, 2), (16, 1), (16, 2), (17, 1), (17, 2), (18, 99999), (19, 99999), (20, 99999), (21, 99999)]
set_option maxRecDepth 100000 in
theorem frX6_take_L38 {p1 : Int32} {p2 : Int32} {x10 : Int32} {M11 : zMem} (hz3 : p1.toNatClampNeg < 4) {w} (hf : fX6_take_L38 p1 p2 x10 M11 = some w) : Fr tX6_take M11 (Sum.elim (fun a => a.2) (fun a => a.2) w) := by
  have hM : Fr tX6_take M11 M11 := Fr_rf
  unfold fX6_take_L38 at hf
  obtain ⟨r1040, h1039, hf⟩ := zb1_sp hf
  by_cases h1045 : r1040 ≤ x10
  · have hf := zt h1045 hf
    exact Fr_el (g := Sum.elim (fun a => a.2) (fun a => a.2)) hf hM
  · have hf := zf h1045 hf
    obtain ⟨r1042, h1041, hf⟩ := zb1_sp hf
    obtain ⟨M1044, h1043, hf⟩ := zb1_sp hf
    have hM := Fr_tr hM (Fr_sub (by decide) (frX2_write hz3 h1043))
    exact Fr_el (g := Sum.elim (fun a => a.2) (fun a => a.2)) hf hM
set_option maxRecDepth 100000 in
theorem frX6_take {p1 : Int32} {p2 : Int32} {M : zMem} {ro : Int32} {Mo : zMem}  (hf : fX6_take p1 p2 M = some (ro, Mo)) : Fr tX6_take M Mo := by
  have hM : Fr tX6_take M M := Fr_rf
  unfold fX6_take at hf
  obtain ⟨r2, h1, hf⟩ := zb1_sp hf
  by_cases h19 : r2 = 0
  · have hf := zt h19 hf
    exact Fr_eiM hf hM
  · have hf := zf h19 hf
    obtain ⟨r4, h3, hf⟩ := zb1_sp hf
    by_cases h18 : r4 = 0
    · have hf := zt h18 hf
      exact Fr_eiM hf hM
    · have hf := zf h18 hf
      obtain ⟨h5, hf⟩ := zc_sp hf
      obtain ⟨r7, h6, hf⟩ := zb1_sp hf
      obtain ⟨M9, h8, hf⟩ := zb1_sp hf
      have hM := Fr_tr hM (Fr_sub (by decide) (frX2_renew (zin_lt h5) h8))
      obtain ⟨b12, hb13, hf⟩ := zb1_sp hf
      have hM := Fr_tr hM (zlp_fr (mem := (fun a => a.2)) (memb := (fun a => a.2)) (T := tX6_take) (fun a w hw => frX6_take_L38 (zin_lt h5) hw) _ _ _ hb13)
      obtain ⟨x14, M15⟩ := b12
      obtain ⟨r17, h16, hf⟩ := zb1_sp hf
      exact Fr_eiM hf hM
def tX6_blank : List (Nat × Nat) := [(0, 6), (14, 1), (14, 2), (15, 1), (15, 2), (16, 1), (16, 2), (17, 1), (17, 2), (18, 99999), (19, 99999), (20, 99999), (21, 99999)]
set_option maxRecDepth 100000 in
theorem frX6_blank {p1 : Int32} {p2 : Int32} {p3 : Int32} {M : zMem} {ro : Int32} {Mo : zMem}  (hf : fX6_blank p1 p2 p3 M = some (ro, Mo)) : Fr tX6_blank M Mo := by
  have hM : Fr tX6_blank M M := Fr_rf
  unfold fX6_blank at hf
  obtain ⟨M1, M1e, hf⟩ := zn_sp hf
  have hM := M1e ▸ (Fr_wF hM rfl)
  clear M1e
  obtain ⟨r3, h2, hf⟩ := zb1_sp hf
  by_cases h14 : r3 = 0
  · have hf := zt h14 hf
    exact Fr_eiM hf hM
  · have hf := zf h14 hf
    by_cases h13 : p2 < 0
    · have hf := zt h13 hf
      exact Fr_eiM hf hM
    · have hf := zf h13 hf
      by_cases h12 : (3 : Int32) < p2
      · have hf := zt h12 hf
        exact Fr_eiM hf hM
      · have hf := zf h12 hf
        by_cases h11 : p3 ≤ (32 : Int32)
        · have hf := zt h11 hf
          by_cases h10 : 0 ≤ p3
          · have hf := zt h10 hf
            obtain ⟨h4, hf⟩ := zc_sp hf
            obtain ⟨M6, h5, hf⟩ := zb1_sp hf
            have hM := Fr_tr hM (Fr_sub (by decide) (frX2_renew (zin_lt h4) h5))
            exact Fr_eiM hf hM
          · have hf := zf h10 hf
            obtain ⟨r8, M9, h7, hf⟩ := zb2_sp hf
            have hM := Fr_tr hM (Fr_sub (by decide) (frX6_failed  h7))
            exact Fr_eiM hf hM
        · have hf := zf h11 hf
          exact Fr_eiM hf hM
def tX6_put : List (Nat × Nat) := [(0, 6), (18, 99999), (19, 99999), (20, 99999), (21, 99999)]
set_option maxRecDepth 100000 in
theorem frX6_put {p1 : Int32} {p2 : Int32} {p3 : Int32} {M : zMem} {ro : Int32} {Mo : zMem}  (hf : fX6_put p1 p2 p3 M = some (ro, Mo)) : Fr tX6_put M Mo := by
  have hM : Fr tX6_put M M := Fr_rf
  unfold fX6_put at hf
  obtain ⟨M1, M1e, hf⟩ := zn_sp hf
  have hM := M1e ▸ (Fr_wF hM rfl)
  clear M1e
  obtain ⟨r3, h2, hf⟩ := zb1_sp hf
  by_cases h14 : r3 = 0
  · have hf := zt h14 hf
    exact Fr_eiM hf hM
  · have hf := zf h14 hf
    obtain ⟨h4, hf⟩ := zc_sp hf
    obtain ⟨r6, h5, hf⟩ := zb1_sp hf
    by_cases h13 : r6 = 0
    · have hf := zt h13 hf
      obtain ⟨h7, hf⟩ := zc_sp hf
      obtain ⟨M9, h8, hf⟩ := zb1_sp hf
      have hM := Fr_tr hM (Fr_sub (by decide) (frX2_write (zin_lt h7) h8))
      exact Fr_eiM hf hM
    · have hf := zf h13 hf
      obtain ⟨r11, M12, h10, hf⟩ := zb2_sp hf
      have hM := Fr_tr hM (Fr_sub (by decide) (frX6_failed  h10))
      exact Fr_eiM hf hM
def tX6_get : List (Nat × Nat) := [(0, 6)]
set_option maxRecDepth 100000 in
theorem frX6_get {p1 : Int32} {p2 : Int32} {M : zMem} {ro : Int64} {Mo : zMem}  (hf : fX6_get p1 p2 M = some (ro, Mo)) : Fr tX6_get M Mo := by
  have hM : Fr tX6_get M M := Fr_rf
  unfold fX6_get at hf
  obtain ⟨M1, M1e, hf⟩ := zn_sp hf
  have hM := M1e ▸ (Fr_wF hM rfl)
  clear M1e
  obtain ⟨r3, h2, hf⟩ := zb1_sp hf
  by_cases h15 : r3 = 0
  · have hf := zt h15 hf
    exact Fr_elM hf hM
  · have hf := zf h15 hf
    obtain ⟨h4, hf⟩ := zc_sp hf
    obtain ⟨r6, h5, hf⟩ := zb1_sp hf
    obtain ⟨M7, M7e, hf⟩ := zn_sp hf
    have hM := M7e ▸ (Fr_wF hM rfl)
    clear M7e
    obtain ⟨k9, k9e, hf⟩ := zj_sp hf
    have hj10 : ∀ (x8 : Int64), k9 x8 = some (ro, Mo) → Fr tX6_get M Mo := by
      intro x8 hf
      rw [k9e] at hf
      exact Fr_elM hf hM
    clear k9e
    by_cases h14 : (M7 0 6) = 0
    · have hf := zt h14 hf
      obtain ⟨h11, hf⟩ := zc_sp hf
      obtain ⟨r13, h12, hf⟩ := zb1_sp hf
      exact hj10 _ hf
    · have hf := zf h14 hf
      exact hj10 _ hf
def tX6_copy : List (Nat × Nat) := [(0, 6), (18, 99999), (19, 99999), (20, 99999), (21, 99999)]
set_option maxRecDepth 100000 in
theorem frX6_copy {p1 : Int32} {p2 : Int32} {p3 : Int32} {p4 : Int32} {p5 : Int32} {M : zMem} {ro : Int32} {Mo : zMem}  (hf : fX6_copy p1 p2 p3 p4 p5 M = some (ro, Mo)) : Fr tX6_copy M Mo := by
  have hM : Fr tX6_copy M M := Fr_rf
  unfold fX6_copy at hf
  obtain ⟨M1, M1e, hf⟩ := zn_sp hf
  have hM := M1e ▸ (Fr_wF hM rfl)
  clear M1e
  obtain ⟨r3, h2, hf⟩ := zb1_sp hf
  by_cases h19 : r3 = 0
  · have hf := zt h19 hf
    exact Fr_eiM hf hM
  · have hf := zf h19 hf
    obtain ⟨r5, h4, hf⟩ := zb1_sp hf
    by_cases h18 : r5 = 0
    · have hf := zt h18 hf
      exact Fr_eiM hf hM
    · have hf := zf h18 hf
      obtain ⟨h6, hf⟩ := zc_sp hf
      obtain ⟨h7, hf⟩ := zc_sp hf
      obtain ⟨r9, h8, hf⟩ := zb1_sp hf
      by_cases h17 : r9 = 0
      · have hf := zt h17 hf
        obtain ⟨h10, hf⟩ := zc_sp hf
        obtain ⟨h11, hf⟩ := zc_sp hf
        obtain ⟨M13, h12, hf⟩ := zb1_sp hf
        have hM := Fr_tr hM (Fr_sub (by decide) (frX2_copyTo (zin_lt h10) (zin_lt h11) h12))
        exact Fr_eiM hf hM
      · have hf := zf h17 hf
        obtain ⟨r15, M16, h14, hf⟩ := zb2_sp hf
        have hM := Fr_tr hM (Fr_sub (by decide) (frX6_failed  h14))
        exact Fr_eiM hf hM
def tX6_lose : List (Nat × Nat) := [(14, 1), (14, 2), (15, 1), (15, 2), (16, 1), (16, 2), (17, 1), (17, 2)]
set_option maxRecDepth 100000 in
theorem frX6_lose {p1 : Int32} {M : zMem} {ro : Int32} {Mo : zMem}  (hf : fX6_lose p1 M = some (ro, Mo)) : Fr tX6_lose M Mo := by
  have hM : Fr tX6_lose M M := Fr_rf
  unfold fX6_lose at hf
  obtain ⟨r2, h1, hf⟩ := zb1_sp hf
  by_cases h10 : r2 = 0
  · have hf := zt h10 hf
    exact Fr_eiM hf hM
  · have hf := zf h10 hf
    obtain ⟨h3, hf⟩ := zc_sp hf
    obtain ⟨r5, h4, hf⟩ := zb1_sp hf
    obtain ⟨x6, -, hf⟩ := zn_sp hf
    obtain ⟨h7, hf⟩ := zc_sp hf
    obtain ⟨M9, h8, hf⟩ := zb1_sp hf
    have hM := Fr_tr hM (Fr_sub (by decide) (frX2_drop (zin_lt h7) h8))
    exact Fr_eiM hf hM
def tX6_profile : List (Nat × Nat) := [(23, 99999)]
set_option maxRecDepth 100000 in
theorem frX6_profile {p1 : Int32} {p2 : Int32} {p3 : Int32} {M : zMem} {ro : Int32} {Mo : zMem}  (hf : fX6_profile p1 p2 p3 M = some (ro, Mo)) : Fr tX6_profile M Mo := by
  have hM : Fr tX6_profile M M := Fr_rf
  unfold fX6_profile at hf
  obtain ⟨r2, h1, hf⟩ := zb1_sp hf
  by_cases h11 : r2 = 0
  · have hf := zt h11 hf
    exact Fr_eiM hf hM
  · have hf := zf h11 hf
    obtain ⟨r4, h3, hf⟩ := zb1_sp hf
    by_cases h10 : r4 = 0
    · have hf := zt h10 hf
      exact Fr_eiM hf hM
    · have hf := zf h10 hf
      by_cases h9 : p3 < (-99 : Int32)
      · have hf := zt h9 hf
        exact Fr_eiM hf hM
      · have hf := zf h9 hf
        by_cases h8 : p3 ≤ (99 : Int32)
        · have hf := zt h8 hf
          obtain ⟨r6, M7, h5, hf⟩ := zb2_sp hf
          have hM := Fr_tr hM (Fr_sub (by decide) (frX3_countAt  h5))
          exact Fr_eiM hf hM
        · have hf := zf h8 hf
          exact Fr_eiM hf hM
def tX6_sharp : List (Nat × Nat) := [(23, 99999)]
set_option maxRecDepth 100000 in
theorem frX6_sharp {p1 : Int32} {p2 : Int32} {M : zMem} {ro : Int32} {Mo : zMem}  (hf : fX6_sharp p1 p2 M = some (ro, Mo)) : Fr tX6_sharp M Mo := by
  have hM : Fr tX6_sharp M M := Fr_rf
  unfold fX6_sharp at hf
  obtain ⟨r2, h1, hf⟩ := zb1_sp hf
  by_cases h9 : r2 = 0
  · have hf := zt h9 hf
    exact Fr_eiM hf hM
  · have hf := zf h9 hf
    obtain ⟨r4, h3, hf⟩ := zb1_sp hf
    by_cases h8 : r4 = 0
    · have hf := zt h8 hf
      exact Fr_eiM hf hM
    · have hf := zf h8 hf
      obtain ⟨r6, M7, h5, hf⟩ := zb2_sp hf
      have hM := Fr_tr hM (Fr_sub (by decide) (frX3_sharpness  h5))
      exact Fr_eiM hf hM
def tX6_best : List (Nat × Nat) := [(22, 3), (22, 4), (22, 5), (23, 99999), (24, 99999), (25, 99999)]
set_option maxRecDepth 100000 in
theorem frX6_best {p1 : Int32} {M : zMem} {ro : Int32} {Mo : zMem}  (hf : fX6_best p1 M = some (ro, Mo)) : Fr tX6_best M Mo := by
  have hM : Fr tX6_best M M := Fr_rf
  unfold fX6_best at hf
  obtain ⟨r2, h1, hf⟩ := zb1_sp hf
  by_cases h7 : r2 = 0
  · have hf := zt h7 hf
    exact Fr_eiM hf hM
  · have hf := zf h7 hf
    obtain ⟨M4, h3, hf⟩ := zb1_sp hf
    have hM := Fr_tr hM (Fr_sub (by decide) (frX3_tryAll  h3))
    obtain ⟨r6, h5, hf⟩ := zb1_sp hf
    exact Fr_eiM hf hM
def tX6_found : List (Nat × Nat) := [(22, 3), (22, 4), (22, 5), (23, 99999), (24, 99999), (25, 99999)]
set_option maxRecDepth 100000 in
theorem frX6_found {p1 : Int32} {M : zMem} {ro : Int32} {Mo : zMem}  (hf : fX6_found p1 M = some (ro, Mo)) : Fr tX6_found M Mo := by
  have hM : Fr tX6_found M M := Fr_rf
  unfold fX6_found at hf
  obtain ⟨r2, h1, hf⟩ := zb1_sp hf
  by_cases h7 : r2 = 0
  · have hf := zt h7 hf
    exact Fr_eiM hf hM
  · have hf := zf h7 hf
    obtain ⟨M4, h3, hf⟩ := zb1_sp hf
    have hM := Fr_tr hM (Fr_sub (by decide) (frX3_search  h3))
    obtain ⟨r6, h5, hf⟩ := zb1_sp hf
    exact Fr_eiM hf hM
def tX6_tried : List (Nat × Nat) := [(22, 3), (22, 4), (22, 5), (23, 99999), (24, 99999), (25, 99999)]
set_option maxRecDepth 100000 in
theorem frX6_tried {p1 : Int32} {p2 : Int32} {M : zMem} {ro : Int32} {Mo : zMem}  (hf : fX6_tried p1 p2 M = some (ro, Mo)) : Fr tX6_tried M Mo := by
  have hM : Fr tX6_tried M M := Fr_rf
  unfold fX6_tried at hf
  obtain ⟨r2, h1, hf⟩ := zb1_sp hf
  by_cases h15 : r2 = 0
  · have hf := zt h15 hf
    exact Fr_eiM hf hM
  · have hf := zf h15 hf
    by_cases h14 : p2 < 0
    · have hf := zt h14 hf
      exact Fr_eiM hf hM
    · have hf := zf h14 hf
      by_cases h13 : p2 ≤ (32 : Int32)
      · have hf := zt h13 hf
        obtain ⟨M4, h3, hf⟩ := zb1_sp hf
        have hM := Fr_tr hM (Fr_sub (by decide) (frX3_search  h3))
        obtain ⟨r6, h5, hf⟩ := zb1_sp hf
        obtain ⟨k8, k8e, hf⟩ := zj_sp hf
        have hj9 : ∀ (x7 : Int32), k8 x7 = some (ro, Mo) → Fr tX6_tried M Mo := by
          intro x7 hf
          rw [k8e] at hf
          exact Fr_eiM hf hM
        clear k8e
        by_cases h12 : r6 ≤ p2
        · have hf := zt h12 hf
          exact hj9 _ hf
        · have hf := zf h12 hf
          obtain ⟨r11, h10, hf⟩ := zb1_sp hf
          exact hj9 _ hf
      · have hf := zf h13 hf
        exact Fr_eiM hf hM
def tX6_shear : List (Nat × Nat) := [(1, 4), (1, 5), (2, 99999), (3, 99999), (5, 99999), (6, 99999), (7, 99999), (8, 99999), (9, 99999), (10, 99999), (11, 99999), (12, 99999), (59, 99999)]
set_option maxRecDepth 100000 in
theorem frX6_shear_L37 {p1 : Int32} {p2 : Int32} {x5 : Int32} {x11 : Int32} {M12 : zMem}  {w} (hf : fX6_shear_L37 p1 p2 x5 x11 M12 = some w) : Fr tX6_shear M12 (Sum.elim (fun a => a.2) (fun a => a.2) w) := by
  have hM : Fr tX6_shear M12 M12 := Fr_rf
  unfold fX6_shear_L37 at hf
  by_cases h1042 : x5 ≤ x11
  · have hf := zt h1042 hf
    exact Fr_el (g := Sum.elim (fun a => a.2) (fun a => a.2)) hf hM
  · have hf := zf h1042 hf
    obtain ⟨r1039, h1038, hf⟩ := zb1_sp hf
    obtain ⟨h1040, hf⟩ := zc_sp hf
    obtain ⟨M1041, M1041e, hf⟩ := zn_sp hf
    have hM := M1041e ▸ (Fr_wA hM (c := 59) rfl)
    clear M1041e
    exact Fr_el (g := Sum.elim (fun a => a.2) (fun a => a.2)) hf hM
set_option maxRecDepth 100000 in
theorem frX6_shear {p1 : Int32} {p2 : Int32} {M : zMem} {ro : Int32} {Mo : zMem}  (hf : fX6_shear p1 p2 M = some (ro, Mo)) : Fr tX6_shear M Mo := by
  have hM : Fr tX6_shear M M := Fr_rf
  unfold fX6_shear at hf
  obtain ⟨r2, h1, hf⟩ := zb1_sp hf
  by_cases h29 : r2 = 0
  · have hf := zt h29 hf
    exact Fr_eiM hf hM
  · have hf := zf h29 hf
    obtain ⟨r4, h3, hf⟩ := zb1_sp hf
    by_cases h28 : r4 = 0
    · have hf := zt h28 hf
      exact Fr_eiM hf hM
    · have hf := zf h28 hf
      obtain ⟨k6, k6e, hf⟩ := zj_sp hf
      have hj7 : ∀ (x5 : Int32), k6 x5 = some (ro, Mo) → Fr tX6_shear M Mo := by
        intro x5 hf
        rw [k6e] at hf
        obtain ⟨b13, hb14, hf⟩ := zb1_sp hf
        have hM := Fr_tr hM (zlp_fr (mem := (fun a => a.2)) (memb := (fun a => a.2)) (T := tX6_shear) (fun a w hw => frX6_shear_L37  hw) _ _ _ hb14)
        obtain ⟨x15, M16⟩ := b13
        obtain ⟨k19, k19e, hf⟩ := zj_sp hf
        have hj20 : ∀ (x17 : Int32) (M18 : zMem), Fr tX6_shear M M18 → k19 x17 M18 = some (ro, Mo) → Fr tX6_shear M Mo := by
          intro x17 M18 hM hf
          rw [k19e] at hf
          exact Fr_eiM hf hM
        clear k19e
        by_cases h27 : p1 = 0
        · have hf := zt h27 hf
          obtain ⟨r25, M26, h24, hf⟩ := zb2_sp hf
          have hM := Fr_tr hM (Fr_sub (by decide) (frX4_slideColumns  h24))
          exact hj20 _ _ hM hf
        · have hf := zf h27 hf
          obtain ⟨r22, M23, h21, hf⟩ := zb2_sp hf
          have hM := Fr_tr hM (Fr_sub (by decide) (frX4_slideRows  h21))
          exact hj20 _ _ hM hf
      clear k6e
      by_cases h10 : p1 = 0
      · have hf := zt h10 hf
        obtain ⟨r9, h8, hf⟩ := zb1_sp hf
        exact hj7 _ hf
      · have hf := zf h10 hf
        exact hj7 _ hf
def tX6_run : List (Nat × Nat) := [(26, 5), (26, 6), (27, 99999), (28, 99999), (29, 99999), (30, 99999), (31, 99999)]
set_option maxRecDepth 100000 in
theorem frX6_run {p1 : Int32} {p2 : Int32} {M : zMem} {ro : Int32} {Mo : zMem}  (hf : fX6_run p1 p2 M = some (ro, Mo)) : Fr tX6_run M Mo := by
  have hM : Fr tX6_run M M := Fr_rf
  unfold fX6_run at hf
  obtain ⟨M2, h1, hf⟩ := zb1_sp hf
  have hM := Fr_tr hM (Fr_sub (by decide) (frX5_find  h1))
  by_cases h18 : p1 < 0
  · have hf := zt h18 hf
    exact Fr_eiM hf hM
  · have hf := zf h18 hf
    obtain ⟨r4, h3, hf⟩ := zb1_sp hf
    by_cases h17 : p1 < r4
    · have hf := zt h17 hf
      by_cases h5 : p2 = (0 : Int32)
      · have hf := zt h5 hf
        obtain ⟨r7, h6, hf⟩ := zb1_sp hf
        exact Fr_eiM hf hM
      · have hf := zf h5 hf
        by_cases h8 : p2 = (1 : Int32)
        · have hf := zt h8 hf
          obtain ⟨r10, h9, hf⟩ := zb1_sp hf
          exact Fr_eiM hf hM
        · have hf := zf h8 hf
          by_cases h11 : p2 = (2 : Int32)
          · have hf := zt h11 hf
            obtain ⟨r13, h12, hf⟩ := zb1_sp hf
            exact Fr_eiM hf hM
          · have hf := zf h11 hf
            by_cases h14 : p2 = (3 : Int32)
            · have hf := zt h14 hf
              obtain ⟨r16, h15, hf⟩ := zb1_sp hf
              exact Fr_eiM hf hM
            · have hf := zf h14 hf
              exact Fr_eiM hf hM
    · have hf := zf h17 hf
      exact Fr_eiM hf hM
def tX6_stroke : List (Nat × Nat) := [(26, 5), (26, 6), (27, 99999), (28, 99999), (29, 99999), (30, 99999), (31, 99999)]
set_option maxRecDepth 100000 in
theorem frX6_stroke {p1 : Int32} {p2 : Int32} {M : zMem} {ro : Int32} {Mo : zMem}  (hf : fX6_stroke p1 p2 M = some (ro, Mo)) : Fr tX6_stroke M Mo := by
  have hM : Fr tX6_stroke M M := Fr_rf
  unfold fX6_stroke at hf
  obtain ⟨M2, h1, hf⟩ := zb1_sp hf
  have hM := Fr_tr hM (Fr_sub (by decide) (frX5_find  h1))
  by_cases h24 : p1 < 0
  · have hf := zt h24 hf
    exact Fr_eiM hf hM
  · have hf := zf h24 hf
    obtain ⟨r4, h3, hf⟩ := zb1_sp hf
    by_cases h23 : p1 < r4
    · have hf := zt h23 hf
      by_cases h5 : p2 = (0 : Int32)
      · have hf := zt h5 hf
        obtain ⟨r7, h6, hf⟩ := zb1_sp hf
        exact Fr_eiM hf hM
      · have hf := zf h5 hf
        by_cases h8 : p2 = (1 : Int32)
        · have hf := zt h8 hf
          obtain ⟨r10, h9, hf⟩ := zb1_sp hf
          exact Fr_eiM hf hM
        · have hf := zf h8 hf
          by_cases h11 : p2 = (2 : Int32)
          · have hf := zt h11 hf
            obtain ⟨r13, h12, hf⟩ := zb1_sp hf
            exact Fr_eiM hf hM
          · have hf := zf h11 hf
            by_cases h14 : p2 = (3 : Int32)
            · have hf := zt h14 hf
              obtain ⟨r16, h15, hf⟩ := zb1_sp hf
              exact Fr_eiM hf hM
            · have hf := zf h14 hf
              by_cases h17 : p2 = (4 : Int32)
              · have hf := zt h17 hf
                obtain ⟨r19, h18, hf⟩ := zb1_sp hf
                exact Fr_eiM hf hM
              · have hf := zf h17 hf
                by_cases h20 : p2 = (5 : Int32)
                · have hf := zt h20 hf
                  obtain ⟨r22, h21, hf⟩ := zb1_sp hf
                  exact Fr_eiM hf hM
                · have hf := zf h20 hf
                  exact Fr_eiM hf hM
    · have hf := zf h23 hf
      exact Fr_eiM hf hM
def tX6_baseline : List (Nat × Nat) := [(32, 2), (32, 3), (32, 4), (32, 5), (32, 6), (34, 99999), (35, 99999), (36, 99999), (37, 99999), (38, 99999), (39, 99999), (40, 99999), (41, 99999), (42, 99999), (43, 99999), (44, 99999), (45, 99999), (46, 99999), (47, 99999), (48, 99999), (49, 99999), (50, 99999), (51, 99999), (52, 99999), (53, 99999), (54, 99999), (55, 99999), (56, 99999), (57, 99999), (58, 99999)]
set_option maxRecDepth 100000 in
theorem frX6_baseline {p1 : Int32} {M : zMem} {ro : Int32} {Mo : zMem}  (hf : fX6_baseline p1 M = some (ro, Mo)) : Fr tX6_baseline M Mo := by
  have hM : Fr tX6_baseline M M := Fr_rf
  unfold fX6_baseline at hf
  by_cases h15 : p1 < 0
  · have hf := zt h15 hf
    exact Fr_eiM hf hM
  · have hf := zf h15 hf
    by_cases h14 : p1 ≤ (2 : Int32)
    · have hf := zt h14 hf
      obtain ⟨M2, h1, hf⟩ := zb1_sp hf
      have hM := Fr_tr hM (Fr_sub (by decide) (frX0_find  h1))
      obtain ⟨r4, h3, hf⟩ := zb1_sp hf
      by_cases h13 : r4 = 0
      · have hf := zt h13 hf
        exact Fr_eiM hf hM
      · have hf := zf h13 hf
        by_cases h5 : p1 = (0 : Int32)
        · have hf := zt h5 hf
          obtain ⟨r7, h6, hf⟩ := zb1_sp hf
          exact Fr_eiM hf hM
        · have hf := zf h5 hf
          by_cases h8 : p1 = (1 : Int32)
          · have hf := zt h8 hf
            obtain ⟨r10, h9, hf⟩ := zb1_sp hf
            exact Fr_eiM hf hM
          · have hf := zf h8 hf
            obtain ⟨r12, h11, hf⟩ := zb1_sp hf
            exact Fr_eiM hf hM
    · have hf := zf h14 hf
      exact Fr_eiM hf hM
def tX6_foot : List (Nat × Nat) := [(32, 2), (32, 3), (32, 4), (32, 5), (32, 6), (34, 99999), (35, 99999), (36, 99999), (37, 99999), (38, 99999), (39, 99999), (40, 99999), (41, 99999), (42, 99999), (43, 99999), (44, 99999), (45, 99999), (46, 99999), (47, 99999), (48, 99999), (49, 99999), (50, 99999), (51, 99999), (52, 99999), (53, 99999), (54, 99999), (55, 99999), (56, 99999), (57, 99999), (58, 99999)]
set_option maxRecDepth 100000 in
theorem frX6_foot {p1 : Int32} {M : zMem} {ro : Int32} {Mo : zMem}  (hf : fX6_foot p1 M = some (ro, Mo)) : Fr tX6_foot M Mo := by
  have hM : Fr tX6_foot M M := Fr_rf
  unfold fX6_foot at hf
  obtain ⟨r2, h1, hf⟩ := zb1_sp hf
  by_cases h13 : r2 = 0
  · have hf := zt h13 hf
    exact Fr_eiM hf hM
  · have hf := zf h13 hf
    obtain ⟨M4, h3, hf⟩ := zb1_sp hf
    have hM := Fr_tr hM (Fr_sub (by decide) (frX0_find  h3))
    obtain ⟨r6, h5, hf⟩ := zb1_sp hf
    obtain ⟨k8, k8e, hf⟩ := zj_sp hf
    have hj9 : ∀ (x7 : Int32), k8 x7 = some (ro, Mo) → Fr tX6_foot M Mo := by
      intro x7 hf
      rw [k8e] at hf
      exact Fr_eiM hf hM
    clear k8e
    by_cases h12 : r6 = 0
    · have hf := zt h12 hf
      exact hj9 _ hf
    · have hf := zf h12 hf
      obtain ⟨r11, h10, hf⟩ := zb1_sp hf
      exact hj9 _ hf
def tX6_curl : List (Nat × Nat) := [(32, 2), (32, 3), (32, 4), (32, 5), (32, 6), (34, 99999), (35, 99999), (36, 99999), (37, 99999), (38, 99999), (39, 99999), (40, 99999), (41, 99999), (42, 99999), (43, 99999), (44, 99999), (45, 99999), (46, 99999), (47, 99999), (48, 99999), (49, 99999), (50, 99999), (51, 99999), (52, 99999), (53, 99999), (54, 99999), (55, 99999), (56, 99999), (57, 99999), (58, 99999)]
set_option maxRecDepth 100000 in
theorem frX6_curl {p1 : Int32} {M : zMem} {ro : Int32} {Mo : zMem}  (hf : fX6_curl p1 M = some (ro, Mo)) : Fr tX6_curl M Mo := by
  have hM : Fr tX6_curl M M := Fr_rf
  unfold fX6_curl at hf
  obtain ⟨r2, h1, hf⟩ := zb1_sp hf
  by_cases h13 : r2 = 0
  · have hf := zt h13 hf
    exact Fr_eiM hf hM
  · have hf := zf h13 hf
    obtain ⟨M4, h3, hf⟩ := zb1_sp hf
    have hM := Fr_tr hM (Fr_sub (by decide) (frX0_find  h3))
    obtain ⟨r6, h5, hf⟩ := zb1_sp hf
    obtain ⟨k8, k8e, hf⟩ := zj_sp hf
    have hj9 : ∀ (x7 : Int32), k8 x7 = some (ro, Mo) → Fr tX6_curl M Mo := by
      intro x7 hf
      rw [k8e] at hf
      exact Fr_eiM hf hM
    clear k8e
    by_cases h12 : r6 = 0
    · have hf := zt h12 hf
      exact hj9 _ hf
    · have hf := zf h12 hf
      obtain ⟨r11, h10, hf⟩ := zb1_sp hf
      exact hj9 _ hf
def tX6_mean : List (Nat × Nat) := [(32, 2), (32, 3), (32, 4), (32, 5), (32, 6), (34, 99999), (35, 99999), (36, 99999), (37, 99999), (38, 99999), (39, 99999), (40, 99999), (41, 99999), (42, 99999), (43, 99999), (44, 99999), (45, 99999), (46, 99999), (47, 99999), (48, 99999), (49, 99999), (50, 99999), (51, 99999), (52, 99999), (53, 99999), (54, 99999), (55, 99999), (56, 99999), (57, 99999), (58, 99999)]
set_option maxRecDepth 100000 in
theorem frX6_mean {M : zMem} {ro : Int64} {Mo : zMem}  (hf : fX6_mean M = some (ro, Mo)) : Fr tX6_mean M Mo := by
  have hM : Fr tX6_mean M M := Fr_rf
  unfold fX6_mean at hf
  obtain ⟨M2, h1, hf⟩ := zb1_sp hf
  have hM := Fr_tr hM (Fr_sub (by decide) (frX0_find  h1))
  obtain ⟨r4, h3, hf⟩ := zb1_sp hf
  obtain ⟨k6, k6e, hf⟩ := zj_sp hf
  have hj7 : ∀ (x5 : Int64), k6 x5 = some (ro, Mo) → Fr tX6_mean M Mo := by
    intro x5 hf
    rw [k6e] at hf
    exact Fr_elM hf hM
  clear k6e
  by_cases h10 : r4 = 0
  · have hf := zt h10 hf
    exact hj7 _ hf
  · have hf := zf h10 hf
    obtain ⟨r9, h8, hf⟩ := zb1_sp hf
    exact hj7 _ hf
def tX6_rest : List (Nat × Nat) := [(32, 2), (32, 3), (32, 4), (32, 5), (32, 6), (34, 99999), (35, 99999), (36, 99999), (37, 99999), (38, 99999), (39, 99999), (40, 99999), (41, 99999), (42, 99999), (43, 99999), (44, 99999), (45, 99999), (46, 99999), (47, 99999), (48, 99999), (49, 99999), (50, 99999), (51, 99999), (52, 99999), (53, 99999), (54, 99999), (55, 99999), (56, 99999), (57, 99999), (58, 99999)]
set_option maxRecDepth 100000 in
theorem frX6_rest {M : zMem} {ro : Int64} {Mo : zMem}  (hf : fX6_rest M = some (ro, Mo)) : Fr tX6_rest M Mo := by
  have hM : Fr tX6_rest M M := Fr_rf
  unfold fX6_rest at hf
  obtain ⟨M2, h1, hf⟩ := zb1_sp hf
  have hM := Fr_tr hM (Fr_sub (by decide) (frX0_find  h1))
  obtain ⟨r4, h3, hf⟩ := zb1_sp hf
  obtain ⟨k6, k6e, hf⟩ := zj_sp hf
  have hj7 : ∀ (x5 : Int64), k6 x5 = some (ro, Mo) → Fr tX6_rest M Mo := by
    intro x5 hf
    rw [k6e] at hf
    exact Fr_elM hf hM
  clear k6e
  by_cases h12 : r4 = 0
  · have hf := zt h12 hf
    exact hj7 _ hf
  · have hf := zf h12 hf
    obtain ⟨r9, h8, hf⟩ := zb1_sp hf
    obtain ⟨r11, h10, hf⟩ := zb1_sp hf
    exact hj7 _ hf
def tX6_slope : List (Nat × Nat) := [(32, 2), (32, 3), (32, 4), (32, 5), (32, 6), (34, 99999), (35, 99999), (36, 99999), (37, 99999), (38, 99999), (39, 99999), (40, 99999), (41, 99999), (42, 99999), (43, 99999), (44, 99999), (45, 99999), (46, 99999), (47, 99999), (48, 99999), (49, 99999), (50, 99999), (51, 99999), (52, 99999), (53, 99999), (54, 99999), (55, 99999), (56, 99999), (57, 99999), (58, 99999)]
set_option maxRecDepth 100000 in
theorem frX6_slope {M : zMem} {ro : Int32} {Mo : zMem}  (hf : fX6_slope M = some (ro, Mo)) : Fr tX6_slope M Mo := by
  have hM : Fr tX6_slope M M := Fr_rf
  unfold fX6_slope at hf
  obtain ⟨M2, h1, hf⟩ := zb1_sp hf
  have hM := Fr_tr hM (Fr_sub (by decide) (frX0_find  h1))
  obtain ⟨r4, h3, hf⟩ := zb1_sp hf
  obtain ⟨k6, k6e, hf⟩ := zj_sp hf
  have hj7 : ∀ (x5 : Int32), k6 x5 = some (ro, Mo) → Fr tX6_slope M Mo := by
    intro x5 hf
    rw [k6e] at hf
    exact Fr_eiM hf hM
  clear k6e
  by_cases h10 : (2 : Int32) ≤ r4
  · have hf := zt h10 hf
    obtain ⟨r9, h8, hf⟩ := zb1_sp hf
    exact hj7 _ hf
  · have hf := zf h10 hf
    exact hj7 _ hf
def tX6_level : List (Nat × Nat) := [(1, 4), (1, 5), (2, 99999), (3, 99999), (5, 99999), (6, 99999), (7, 99999), (8, 99999), (9, 99999), (10, 99999), (11, 99999), (12, 99999), (32, 2), (32, 3), (32, 4), (32, 5), (32, 6), (34, 99999), (35, 99999), (36, 99999), (37, 99999), (38, 99999), (39, 99999), (40, 99999), (41, 99999), (42, 99999), (43, 99999), (44, 99999), (45, 99999), (46, 99999), (47, 99999), (48, 99999), (49, 99999), (50, 99999), (51, 99999), (52, 99999), (53, 99999), (54, 99999), (55, 99999), (56, 99999), (57, 99999), (58, 99999), (59, 99999)]
set_option maxRecDepth 100000 in
theorem frX6_level_L26 {x5 : Int32} {M6 : zMem}  {w} (hf : fX6_level_L26 x5 M6 = some w) : Fr tX6_level M6 (Sum.elim (fun a => a.2) (fun a => a.2) w) := by
  have hM : Fr tX6_level M6 M6 := Fr_rf
  unfold fX6_level_L26 at hf
  obtain ⟨r1028, h1027, hf⟩ := zb1_sp hf
  by_cases h1033 : r1028 ≤ x5
  · have hf := zt h1033 hf
    exact Fr_el (g := Sum.elim (fun a => a.2) (fun a => a.2)) hf hM
  · have hf := zf h1033 hf
    obtain ⟨r1030, h1029, hf⟩ := zb1_sp hf
    obtain ⟨h1031, hf⟩ := zc_sp hf
    obtain ⟨M1032, M1032e, hf⟩ := zn_sp hf
    have hM := M1032e ▸ (Fr_wA hM (c := 59) rfl)
    clear M1032e
    exact Fr_el (g := Sum.elim (fun a => a.2) (fun a => a.2)) hf hM
set_option maxRecDepth 100000 in
theorem frX6_level {M : zMem} {ro : Int32} {Mo : zMem}  (hf : fX6_level M = some (ro, Mo)) : Fr tX6_level M Mo := by
  have hM : Fr tX6_level M M := Fr_rf
  unfold fX6_level at hf
  obtain ⟨M2, h1, hf⟩ := zb1_sp hf
  have hM := Fr_tr hM (Fr_sub (by decide) (frX0_find  h1))
  obtain ⟨r4, h3, hf⟩ := zb1_sp hf
  by_cases h14 : r4 = 0
  · have hf := zt h14 hf
    exact Fr_eiM hf hM
  · have hf := zf h14 hf
    obtain ⟨b7, hb8, hf⟩ := zb1_sp hf
    have hM := Fr_tr hM (zlp_fr (mem := (fun a => a.2)) (memb := (fun a => a.2)) (T := tX6_level) (fun a w hw => frX6_level_L26  hw) _ _ _ hb8)
    obtain ⟨x9, M10⟩ := b7
    obtain ⟨r12, M13, h11, hf⟩ := zb2_sp hf
    have hM := Fr_tr hM (Fr_sub (by decide) (frX4_slideColumns  h11))
    exact Fr_eiM hf hM
def tX6_back : List (Nat × Nat) := [(1, 4), (1, 5), (2, 99999)]
set_option maxRecDepth 100000 in
theorem frX6_back {M : zMem} {ro : Int32} {Mo : zMem}  (hf : fX6_back M = some (ro, Mo)) : Fr tX6_back M Mo := by
  have hM : Fr tX6_back M M := Fr_rf
  unfold fX6_back at hf
  obtain ⟨r2, h1, hf⟩ := zb1_sp hf
  by_cases h7 : r2 = 0
  · have hf := zt h7 hf
    exact Fr_eiM hf hM
  · have hf := zf h7 hf
    obtain ⟨M4, h3, hf⟩ := zb1_sp hf
    have hM := Fr_tr hM (Fr_sub (by decide) (frX4_takeBack  h3))
    obtain ⟨r6, h5, hf⟩ := zb1_sp hf
    exact Fr_eiM hf hM
def tX6_many : List (Nat × Nat) := [(26, 5), (26, 6), (27, 99999), (28, 99999), (29, 99999), (30, 99999), (31, 99999)]
set_option maxRecDepth 100000 in
theorem frX6_many {p1 : Int32} {M : zMem} {ro : Int32} {Mo : zMem}  (hf : fX6_many p1 M = some (ro, Mo)) : Fr tX6_many M Mo := by
  have hM : Fr tX6_many M M := Fr_rf
  unfold fX6_many at hf
  by_cases h1 : p1 = (0 : Int32)
  · have hf := zt h1 hf
    obtain ⟨r3, h2, hf⟩ := zb1_sp hf
    exact Fr_eiM hf hM
  · have hf := zf h1 hf
    by_cases h4 : p1 = (1 : Int32)
    · have hf := zt h4 hf
      obtain ⟨r6, h5, hf⟩ := zb1_sp hf
      exact Fr_eiM hf hM
    · have hf := zf h4 hf
      by_cases h7 : p1 = (2 : Int32)
      · have hf := zt h7 hf
        obtain ⟨M9, h8, hf⟩ := zb1_sp hf
        have hM := Fr_tr hM (Fr_sub (by decide) (frX5_find  h8))
        obtain ⟨r11, h10, hf⟩ := zb1_sp hf
        exact Fr_eiM hf hM
      · have hf := zf h7 hf
        by_cases h12 : p1 = (3 : Int32)
        · have hf := zt h12 hf
          obtain ⟨M14, h13, hf⟩ := zb1_sp hf
          have hM := Fr_tr hM (Fr_sub (by decide) (frX5_find  h13))
          obtain ⟨r16, h15, hf⟩ := zb1_sp hf
          exact Fr_eiM hf hM
        · have hf := zf h12 hf
          by_cases h17 : p1 = (4 : Int32)
          · have hf := zt h17 hf
            obtain ⟨r19, h18, hf⟩ := zb1_sp hf
            exact Fr_eiM hf hM
          · have hf := zf h17 hf
            by_cases h20 : p1 = (5 : Int32)
            · have hf := zt h20 hf
              obtain ⟨r22, h21, hf⟩ := zb1_sp hf
              exact Fr_eiM hf hM
            · have hf := zf h20 hf
              by_cases h23 : p1 = (6 : Int32)
              · have hf := zt h23 hf
                obtain ⟨r25, h24, hf⟩ := zb1_sp hf
                exact Fr_eiM hf hM
              · have hf := zf h23 hf
                exact Fr_eiM hf hM
def tX7_refused : List (Nat × Nat) := [(60, 0)]
set_option maxRecDepth 100000 in
theorem frX7_refused {p1 : Int32} {M : zMem} {ro : Int32} {Mo : zMem}  (hf : fX7_refused p1 M = some (ro, Mo)) : Fr tX7_refused M Mo := by
  have hM : Fr tX7_refused M M := Fr_rf
  unfold fX7_refused at hf
  obtain ⟨M1, M1e, hf⟩ := zn_sp hf
  have hM := M1e ▸ (Fr_wF hM rfl)
  clear M1e
  exact Fr_eiM hf hM
def tX7_fails : List (Nat × Nat) := [(60, 0)]
set_option maxRecDepth 100000 in
theorem frX7_fails {p1 : Int32} {M : zMem} {ro : Int32} {Mo : zMem}  (hf : fX7_fails p1 M = some (ro, Mo)) : Fr tX7_fails M Mo := by
  have hM : Fr tX7_fails M M := Fr_rf
  unfold fX7_fails at hf
  obtain ⟨M1, M1e, hf⟩ := zn_sp hf
  have hM := M1e ▸ (Fr_wF hM rfl)
  clear M1e
  exact Fr_eiM hf hM
def tX7_page : List (Nat × Nat) := [(60, 1), (60, 10), (61, 99999)]
set_option maxRecDepth 100000 in
theorem frX7_page_L20 {x5 : Int32} {M6 : zMem}  {w} (hf : fX7_page_L20 x5 M6 = some w) : Fr tX7_page M6 (Sum.elim (fun a => a.2) (fun a => a.2) w) := by
  have hM : Fr tX7_page M6 M6 := Fr_rf
  unfold fX7_page_L20 at hf
  by_cases h1023 : (768 : Int32) ≤ x5
  · have hf := zt h1023 hf
    exact Fr_el (g := Sum.elim (fun a => a.2) (fun a => a.2)) hf hM
  · have hf := zf h1023 hf
    obtain ⟨h1021, hf⟩ := zc_sp hf
    obtain ⟨M1022, M1022e, hf⟩ := zn_sp hf
    have hM := M1022e ▸ (Fr_wA hM (c := 61) rfl)
    clear M1022e
    exact Fr_el (g := Sum.elim (fun a => a.2) (fun a => a.2)) hf hM
set_option maxRecDepth 100000 in
theorem frX7_page {p1 : Int32} {M : zMem} {ro : Int32} {Mo : zMem}  (hf : fX7_page p1 M = some (ro, Mo)) : Fr tX7_page M Mo := by
  have hM : Fr tX7_page M M := Fr_rf
  unfold fX7_page at hf
  obtain ⟨r2, h1, hf⟩ := zb1_sp hf
  by_cases h13 : r2 = 0
  · have hf := zt h13 hf
    exact Fr_eiM hf hM
  · have hf := zf h13 hf
    obtain ⟨r4, h3, hf⟩ := zb1_sp hf
    obtain ⟨b7, hb8, hf⟩ := zb1_sp hf
    have hM := Fr_tr hM (zlp_fr (mem := (fun a => a.2)) (memb := (fun a => a.2)) (T := tX7_page) (fun a w hw => frX7_page_L20  hw) _ _ _ hb8)
    obtain ⟨x9, M10⟩ := b7
    obtain ⟨M11, M11e, hf⟩ := zn_sp hf
    have hM := M11e ▸ (Fr_wF hM rfl)
    clear M11e
    obtain ⟨M12, M12e, hf⟩ := zn_sp hf
    have hM := M12e ▸ (Fr_wF hM rfl)
    clear M12e
    exact Fr_eiM hf hM
def tX7_dot : List (Nat × Nat) := [(60, 10), (61, 99999)]
set_option maxRecDepth 100000 in
theorem frX7_dot {p1 : Int32} {p2 : Int32} {p3 : Int32} {M : zMem} {ro : Int32} {Mo : zMem}  (hf : fX7_dot p1 p2 p3 M = some (ro, Mo)) : Fr tX7_dot M Mo := by
  have hM : Fr tX7_dot M M := Fr_rf
  unfold fX7_dot at hf
  obtain ⟨r2, h1, hf⟩ := zb1_sp hf
  by_cases h14 : r2 = 0
  · have hf := zt h14 hf
    exact Fr_eiM hf hM
  · have hf := zf h14 hf
    obtain ⟨r4, h3, hf⟩ := zb1_sp hf
    by_cases h13 : r4 = 0
    · have hf := zt h13 hf
      exact Fr_eiM hf hM
    · have hf := zf h13 hf
      obtain ⟨r6, h5, hf⟩ := zb1_sp hf
      by_cases h12 : r6 = 0
      · have hf := zt h12 hf
        exact Fr_eiM hf hM
      · have hf := zf h12 hf
        obtain ⟨h7, hf⟩ := zc_sp hf
        obtain ⟨x8, -, hf⟩ := zn_sp hf
        obtain ⟨h9, hf⟩ := zc_sp hf
        obtain ⟨M10, M10e, hf⟩ := zn_sp hf
        have hM := M10e ▸ (Fr_wA hM (c := 61) rfl)
        clear M10e
        obtain ⟨M11, M11e, hf⟩ := zn_sp hf
        have hM := M11e ▸ (Fr_wF hM rfl)
        clear M11e
        exact Fr_eiM hf hM
def tX7_row : List (Nat × Nat) := [(60, 0), (60, 10), (61, 99999)]
set_option maxRecDepth 100000 in
theorem frX7_row_L42 {p1 : Int32} {p2 : Int32} {x9 : Int32} {x10 : Int32} {M11 : zMem}  {w} (hf : fX7_row_L42 p1 p2 x9 x10 M11 = some w) : Fr tX7_row M11 (Sum.elim (fun a => a.2.2) (fun a => a.2.2) w) := by
  have hM : Fr tX7_row M11 M11 := Fr_rf
  unfold fX7_row_L42 at hf
  by_cases h1053 : (M11 60 1) ≤ x9
  · have hf := zt h1053 hf
    exact Fr_el (g := Sum.elim (fun a => a.2.2) (fun a => a.2.2)) hf hM
  · have hf := zf h1053 hf
    obtain ⟨h1043, hf⟩ := zc_sp hf
    obtain ⟨k1045, k1045e, hf⟩ := zj_sp hf
    have hj1046 : ∀ (x1044 : Int32), k1045 x1044 = some w → Fr tX7_row M11 (Sum.elim (fun a => a.2.2) (fun a => a.2.2) w) := by
      intro x1044 hf
      rw [k1045e] at hf
      obtain ⟨h1050, hf⟩ := zc_sp hf
      obtain ⟨M1051, M1051e, hf⟩ := zn_sp hf
      have hM := M1051e ▸ (Fr_wA hM (c := 61) rfl)
      clear M1051e
      obtain ⟨x1052, -, hf⟩ := zn_sp hf
      exact Fr_el (g := Sum.elim (fun a => a.2.2) (fun a => a.2.2)) hf hM
    clear k1045e
    by_cases h1049 : (M11 63 p2.toNatClampNeg) ≤ x9
    · have hf := zt h1049 hf
      exact hj1046 _ hf
    · have hf := zf h1049 hf
      obtain ⟨h1047, hf⟩ := zc_sp hf
      by_cases h1048 : (M11 64 (((32 : Int32) * p2) + x9).toNatClampNeg) = 0
      · have hf := zt h1048 hf
        exact hj1046 _ hf
      · have hf := zf h1048 hf
        exact hj1046 _ hf
set_option maxRecDepth 100000 in
theorem frX7_row {p1 : Int32} {p2 : Int32} {M : zMem} {ro : Int32} {Mo : zMem}  (hf : fX7_row p1 p2 M = some (ro, Mo)) : Fr tX7_row M Mo := by
  have hM : Fr tX7_row M M := Fr_rf
  unfold fX7_row at hf
  obtain ⟨r2, h1, hf⟩ := zb1_sp hf
  by_cases h29 : r2 = 0
  · have hf := zt h29 hf
    obtain ⟨r4, M5, h3, hf⟩ := zb2_sp hf
    have hM := Fr_tr hM (Fr_sub (by decide) (frX7_refused  h3))
    exact Fr_eiM hf hM
  · have hf := zf h29 hf
    obtain ⟨r7, h6, hf⟩ := zb1_sp hf
    by_cases h28 : r7 = 0
    · have hf := zt h28 hf
      obtain ⟨r26, M27, h25, hf⟩ := zb2_sp hf
      have hM := Fr_tr hM (Fr_sub (by decide) (frX7_refused  h25))
      exact Fr_eiM hf hM
    · have hf := zf h28 hf
      obtain ⟨h8, hf⟩ := zc_sp hf
      by_cases h24 : (M 62 p2.toNatClampNeg) = (-9 : Int32)
      · have hf := zt h24 hf
        obtain ⟨r22, M23, h21, hf⟩ := zb2_sp hf
        have hM := Fr_tr hM (Fr_sub (by decide) (frX7_fails  h21))
        exact Fr_eiM hf hM
      · have hf := zf h24 hf
        obtain ⟨b12, hb13, hf⟩ := zb1_sp hf
        have hM := Fr_tr hM (zlp_fr (mem := (fun a => a.2.2)) (memb := (fun a => a.2.2)) (T := tX7_row) (fun a w hw => frX7_row_L42  hw) _ _ _ hb13)
        obtain ⟨x14, x15, M16⟩ := b12
        obtain ⟨M17, M17e, hf⟩ := zn_sp hf
        have hM := M17e ▸ (Fr_wF hM rfl)
        clear M17e
        obtain ⟨r19, M20, h18, hf⟩ := zb2_sp hf
        have hM := Fr_tr hM (Fr_sub (by decide) (frX7_refused  h18))
        exact Fr_eiM hf hM
def tX7_clears : List (Nat × Nat) := [(62, 99999), (63, 99999), (64, 99999)]
set_option maxRecDepth 100000 in
theorem frX7_clears_L17 {p1 : Int32} {x5 : Int32} {M6 : zMem}  {w} (hf : fX7_clears_L17 p1 x5 M6 = some w) : Fr tX7_clears M6 (Sum.elim (fun a => a.2) (fun a => a.2) w) := by
  have hM : Fr tX7_clears M6 M6 := Fr_rf
  unfold fX7_clears_L17 at hf
  by_cases h1020 : (32 : Int32) ≤ x5
  · have hf := zt h1020 hf
    exact Fr_el (g := Sum.elim (fun a => a.2) (fun a => a.2)) hf hM
  · have hf := zf h1020 hf
    obtain ⟨h1018, hf⟩ := zc_sp hf
    obtain ⟨M1019, M1019e, hf⟩ := zn_sp hf
    have hM := M1019e ▸ (Fr_wA hM (c := 64) rfl)
    clear M1019e
    exact Fr_el (g := Sum.elim (fun a => a.2) (fun a => a.2)) hf hM
set_option maxRecDepth 100000 in
theorem frX7_clears {p1 : Int32} {p2 : Int32} {p3 : Int32} {M : zMem} {Mo : zMem}  (hf : fX7_clears p1 p2 p3 M = some Mo) : Fr tX7_clears M Mo := by
  have hM : Fr tX7_clears M M := Fr_rf
  unfold fX7_clears at hf
  obtain ⟨h1, hf⟩ := zc_sp hf
  obtain ⟨M2, M2e, hf⟩ := zn_sp hf
  have hM := M2e ▸ (Fr_wA hM (c := 62) rfl)
  clear M2e
  obtain ⟨h3, hf⟩ := zc_sp hf
  obtain ⟨M4, M4e, hf⟩ := zn_sp hf
  have hM := M4e ▸ (Fr_wA hM (c := 63) rfl)
  clear M4e
  obtain ⟨b7, hb8, hf⟩ := zb1_sp hf
  have hM := Fr_tr hM (zlp_fr (mem := (fun a => a.2)) (memb := (fun a => a.2)) (T := tX7_clears) (fun a w hw => frX7_clears_L17  hw) _ _ _ hb8)
  obtain ⟨x9, M10⟩ := b7
  exact Fr_eM hf hM
def tX7_take : List (Nat × Nat) := [(62, 99999), (63, 99999), (64, 99999)]
set_option maxRecDepth 100000 in
theorem frX7_take_L31 {p1 : Int32} {p2 : Int32} {x7 : Int32} {x8 : Int32} {M9 : zMem}  {w} (hf : fX7_take_L31 p1 p2 x7 x8 M9 = some w) : Fr tX7_take M9 (Sum.elim (fun a => a.2.2) (fun a => a.2.2) w) := by
  have hM : Fr tX7_take M9 M9 := Fr_rf
  unfold fX7_take_L31 at hf
  by_cases h1039 : (M9 60 1) ≤ x7
  · have hf := zt h1039 hf
    exact Fr_el (g := Sum.elim (fun a => a.2.2) (fun a => a.2.2)) hf hM
  · have hf := zf h1039 hf
    obtain ⟨r1033, h1032, hf⟩ := zb1_sp hf
    obtain ⟨h1034, hf⟩ := zc_sp hf
    obtain ⟨M1035, M1035e, hf⟩ := zn_sp hf
    have hM := M1035e ▸ (Fr_wA hM (c := 64) rfl)
    clear M1035e
    obtain ⟨r1037, h1036, hf⟩ := zb1_sp hf
    obtain ⟨x1038, -, hf⟩ := zn_sp hf
    exact Fr_el (g := Sum.elim (fun a => a.2.2) (fun a => a.2.2)) hf hM
set_option maxRecDepth 100000 in
theorem frX7_take {p1 : Int32} {p2 : Int32} {M : zMem} {ro : Int32} {Mo : zMem}  (hf : fX7_take p1 p2 M = some (ro, Mo)) : Fr tX7_take M Mo := by
  have hM : Fr tX7_take M M := Fr_rf
  unfold fX7_take at hf
  obtain ⟨r2, h1, hf⟩ := zb1_sp hf
  by_cases h16 : r2 = 0
  · have hf := zt h16 hf
    exact Fr_eiM hf hM
  · have hf := zf h16 hf
    obtain ⟨r4, h3, hf⟩ := zb1_sp hf
    by_cases h15 : r4 = 0
    · have hf := zt h15 hf
      exact Fr_eiM hf hM
    · have hf := zf h15 hf
      obtain ⟨M6, h5, hf⟩ := zb1_sp hf
      have hM := Fr_tr hM (Fr_sub (by decide) (frX7_clears  h5))
      obtain ⟨b10, hb11, hf⟩ := zb1_sp hf
      have hM := Fr_tr hM (zlp_fr (mem := (fun a => a.2.2)) (memb := (fun a => a.2.2)) (T := tX7_take) (fun a w hw => frX7_take_L31  hw) _ _ _ hb11)
      obtain ⟨x12, x13, M14⟩ := b10
      exact Fr_eiM hf hM
def tX7_blank : List (Nat × Nat) := [(60, 0), (62, 99999), (63, 99999), (64, 99999)]
set_option maxRecDepth 100000 in
theorem frX7_blank {p1 : Int32} {p2 : Int32} {p3 : Int32} {M : zMem} {ro : Int32} {Mo : zMem}  (hf : fX7_blank p1 p2 p3 M = some (ro, Mo)) : Fr tX7_blank M Mo := by
  have hM : Fr tX7_blank M M := Fr_rf
  unfold fX7_blank at hf
  obtain ⟨r2, h1, hf⟩ := zb1_sp hf
  by_cases h25 : r2 = 0
  · have hf := zt h25 hf
    obtain ⟨r23, M24, h22, hf⟩ := zb2_sp hf
    have hM := Fr_tr hM (Fr_sub (by decide) (frX7_refused  h22))
    exact Fr_eiM hf hM
  · have hf := zf h25 hf
    obtain ⟨r4, h3, hf⟩ := zb1_sp hf
    by_cases h21 : r4 = 0
    · have hf := zt h21 hf
      obtain ⟨r6, M7, h5, hf⟩ := zb2_sp hf
      have hM := Fr_tr hM (Fr_sub (by decide) (frX7_refused  h5))
      exact Fr_eiM hf hM
    · have hf := zf h21 hf
      by_cases h20 : p3 ≤ (32 : Int32)
      · have hf := zt h20 hf
        by_cases h16 : 0 ≤ p3
        · have hf := zt h16 hf
          obtain ⟨M9, h8, hf⟩ := zb1_sp hf
          have hM := Fr_tr hM (Fr_sub (by decide) (frX7_clears  h8))
          obtain ⟨r11, M12, h10, hf⟩ := zb2_sp hf
          have hM := Fr_tr hM (Fr_sub (by decide) (frX7_refused  h10))
          exact Fr_eiM hf hM
        · have hf := zf h16 hf
          obtain ⟨r14, M15, h13, hf⟩ := zb2_sp hf
          have hM := Fr_tr hM (Fr_sub (by decide) (frX7_fails  h13))
          exact Fr_eiM hf hM
      · have hf := zf h20 hf
        obtain ⟨r18, M19, h17, hf⟩ := zb2_sp hf
        have hM := Fr_tr hM (Fr_sub (by decide) (frX7_refused  h17))
        exact Fr_eiM hf hM
def tX7_put : List (Nat × Nat) := [(60, 0), (64, 99999)]
set_option maxRecDepth 100000 in
theorem frX7_put {p1 : Int32} {p2 : Int32} {p3 : Int32} {M : zMem} {ro : Int32} {Mo : zMem}  (hf : fX7_put p1 p2 p3 M = some (ro, Mo)) : Fr tX7_put M Mo := by
  have hM : Fr tX7_put M M := Fr_rf
  unfold fX7_put at hf
  obtain ⟨r2, h1, hf⟩ := zb1_sp hf
  by_cases h20 : r2 = 0
  · have hf := zt h20 hf
    obtain ⟨r18, M19, h17, hf⟩ := zb2_sp hf
    have hM := Fr_tr hM (Fr_sub (by decide) (frX7_refused  h17))
    exact Fr_eiM hf hM
  · have hf := zf h20 hf
    obtain ⟨r4, h3, hf⟩ := zb1_sp hf
    by_cases h16 : r4 = 0
    · have hf := zt h16 hf
      obtain ⟨h5, hf⟩ := zc_sp hf
      obtain ⟨r7, h6, hf⟩ := zb1_sp hf
      obtain ⟨h8, hf⟩ := zc_sp hf
      obtain ⟨M9, M9e, hf⟩ := zn_sp hf
      have hM := M9e ▸ (Fr_wA hM (c := 64) rfl)
      clear M9e
      obtain ⟨r11, M12, h10, hf⟩ := zb2_sp hf
      have hM := Fr_tr hM (Fr_sub (by decide) (frX7_refused  h10))
      exact Fr_eiM hf hM
    · have hf := zf h16 hf
      obtain ⟨r14, M15, h13, hf⟩ := zb2_sp hf
      have hM := Fr_tr hM (Fr_sub (by decide) (frX7_fails  h13))
      exact Fr_eiM hf hM
def tX7_get : List (Nat × Nat) := [(60, 0)]
set_option maxRecDepth 100000 in
theorem frX7_get {p1 : Int32} {p2 : Int32} {M : zMem} {ro : Int64} {Mo : zMem}  (hf : fX7_get p1 p2 M = some (ro, Mo)) : Fr tX7_get M Mo := by
  have hM : Fr tX7_get M M := Fr_rf
  unfold fX7_get at hf
  obtain ⟨M1, M1e, hf⟩ := zn_sp hf
  have hM := M1e ▸ (Fr_wF hM rfl)
  clear M1e
  obtain ⟨r3, h2, hf⟩ := zb1_sp hf
  by_cases h12 : r3 = 0
  · have hf := zt h12 hf
    exact Fr_elM hf hM
  · have hf := zf h12 hf
    obtain ⟨r5, h4, hf⟩ := zb1_sp hf
    obtain ⟨M6, M6e, hf⟩ := zn_sp hf
    have hM := M6e ▸ (Fr_wF hM rfl)
    clear M6e
    obtain ⟨k8, k8e, hf⟩ := zj_sp hf
    have hj9 : ∀ (x7 : Int64), k8 x7 = some (ro, Mo) → Fr tX7_get M Mo := by
      intro x7 hf
      rw [k8e] at hf
      exact Fr_elM hf hM
    clear k8e
    by_cases h11 : (M6 60 0) = 0
    · have hf := zt h11 hf
      obtain ⟨h10, hf⟩ := zc_sp hf
      exact hj9 _ hf
    · have hf := zf h11 hf
      exact hj9 _ hf
def tX7_copy : List (Nat × Nat) := [(60, 0), (64, 99999)]
set_option maxRecDepth 100000 in
theorem frX7_copy_L140 {p1 : Int32} {p2 : Int32} {p3 : Int32} {p4 : Int32} {p5 : Int32} {x37 : Int32} {M38 : zMem}  {w} (hf : fX7_copy_L140 p1 p2 p3 p4 p5 x37 M38 = some w) : Fr tX7_copy M38 (Sum.elim (fun a => a.2) (fun a => a.2) w) := by
  have hM : Fr tX7_copy M38 M38 := Fr_rf
  unfold fX7_copy_L140 at hf
  by_cases h1145 : p5 ≤ x37
  · have hf := zt h1145 hf
    exact Fr_el (g := Sum.elim (fun a => a.2) (fun a => a.2)) hf hM
  · have hf := zf h1145 hf
    obtain ⟨x1141, -, hf⟩ := zn_sp hf
    obtain ⟨h1142, hf⟩ := zc_sp hf
    obtain ⟨h1143, hf⟩ := zc_sp hf
    obtain ⟨M1144, M1144e, hf⟩ := zn_sp hf
    have hM := M1144e ▸ (Fr_wA hM (c := 64) rfl)
    clear M1144e
    exact Fr_el (g := Sum.elim (fun a => a.2) (fun a => a.2)) hf hM
set_option maxRecDepth 100000 in
theorem frX7_copy {p1 : Int32} {p2 : Int32} {p3 : Int32} {p4 : Int32} {p5 : Int32} {M : zMem} {ro : Int32} {Mo : zMem}  (hf : fX7_copy p1 p2 p3 p4 p5 M = some (ro, Mo)) : Fr tX7_copy M Mo := by
  have hM : Fr tX7_copy M M := Fr_rf
  unfold fX7_copy at hf
  obtain ⟨r2, h1, hf⟩ := zb1_sp hf
  by_cases h69 : r2 = 0
  · have hf := zt h69 hf
    obtain ⟨r4, M5, h3, hf⟩ := zb2_sp hf
    have hM := Fr_tr hM (Fr_sub (by decide) (frX7_refused  h3))
    exact Fr_eiM hf hM
  · have hf := zf h69 hf
    obtain ⟨r7, h6, hf⟩ := zb1_sp hf
    by_cases h68 : r7 = 0
    · have hf := zt h68 hf
      obtain ⟨r66, M67, h65, hf⟩ := zb2_sp hf
      have hM := Fr_tr hM (Fr_sub (by decide) (frX7_refused  h65))
      exact Fr_eiM hf hM
    · have hf := zf h68 hf
      obtain ⟨h8, hf⟩ := zc_sp hf
      by_cases h64 : (M 62 p1.toNatClampNeg) = (-9 : Int32)
      · have hf := zt h64 hf
        obtain ⟨r10, M11, h9, hf⟩ := zb2_sp hf
        have hM := Fr_tr hM (Fr_sub (by decide) (frX7_fails  h9))
        exact Fr_eiM hf hM
      · have hf := zf h64 hf
        obtain ⟨h12, hf⟩ := zc_sp hf
        by_cases h63 : (M 62 p3.toNatClampNeg) = (-9 : Int32)
        · have hf := zt h63 hf
          obtain ⟨r61, M62, h60, hf⟩ := zb2_sp hf
          have hM := Fr_tr hM (Fr_sub (by decide) (frX7_fails  h60))
          exact Fr_eiM hf hM
        · have hf := zf h63 hf
          obtain ⟨h13, hf⟩ := zc_sp hf
          obtain ⟨h14, hf⟩ := zc_sp hf
          by_cases h59 : (M 62 p1.toNatClampNeg) = (M 62 p3.toNatClampNeg)
          · have hf := zt h59 hf
            by_cases h55 : p2 < 0
            · have hf := zt h55 hf
              obtain ⟨r16, M17, h15, hf⟩ := zb2_sp hf
              have hM := Fr_tr hM (Fr_sub (by decide) (frX7_fails  h15))
              exact Fr_eiM hf hM
            · have hf := zf h55 hf
              by_cases h54 : p4 < 0
              · have hf := zt h54 hf
                obtain ⟨r19, M20, h18, hf⟩ := zb2_sp hf
                have hM := Fr_tr hM (Fr_sub (by decide) (frX7_fails  h18))
                exact Fr_eiM hf hM
              · have hf := zf h54 hf
                by_cases h53 : p5 < 0
                · have hf := zt h53 hf
                  obtain ⟨r22, M23, h21, hf⟩ := zb2_sp hf
                  have hM := Fr_tr hM (Fr_sub (by decide) (frX7_fails  h21))
                  exact Fr_eiM hf hM
                · have hf := zf h53 hf
                  obtain ⟨h24, hf⟩ := zc_sp hf
                  by_cases h52 : (M 63 p1.toNatClampNeg) < p2
                  · have hf := zt h52 hf
                    obtain ⟨r26, M27, h25, hf⟩ := zb2_sp hf
                    have hM := Fr_tr hM (Fr_sub (by decide) (frX7_fails  h25))
                    exact Fr_eiM hf hM
                  · have hf := zf h52 hf
                    obtain ⟨h28, hf⟩ := zc_sp hf
                    by_cases h51 : (M 63 p3.toNatClampNeg) < p4
                    · have hf := zt h51 hf
                      obtain ⟨r30, M31, h29, hf⟩ := zb2_sp hf
                      have hM := Fr_tr hM (Fr_sub (by decide) (frX7_fails  h29))
                      exact Fr_eiM hf hM
                    · have hf := zf h51 hf
                      obtain ⟨h32, hf⟩ := zc_sp hf
                      by_cases h50 : ((M 63 p1.toNatClampNeg) - p2) < p5
                      · have hf := zt h50 hf
                        obtain ⟨r34, M35, h33, hf⟩ := zb2_sp hf
                        have hM := Fr_tr hM (Fr_sub (by decide) (frX7_fails  h33))
                        exact Fr_eiM hf hM
                      · have hf := zf h50 hf
                        obtain ⟨h36, hf⟩ := zc_sp hf
                        by_cases h49 : p5 ≤ ((M 63 p3.toNatClampNeg) - p4)
                        · have hf := zt h49 hf
                          obtain ⟨b39, hb40, hf⟩ := zb1_sp hf
                          have hM := Fr_tr hM (zlp_fr (mem := (fun a => a.2)) (memb := (fun a => a.2)) (T := tX7_copy) (fun a w hw => frX7_copy_L140  hw) _ _ _ hb40)
                          obtain ⟨x41, M42⟩ := b39
                          obtain ⟨r44, M45, h43, hf⟩ := zb2_sp hf
                          have hM := Fr_tr hM (Fr_sub (by decide) (frX7_refused  h43))
                          exact Fr_eiM hf hM
                        · have hf := zf h49 hf
                          obtain ⟨r47, M48, h46, hf⟩ := zb2_sp hf
                          have hM := Fr_tr hM (Fr_sub (by decide) (frX7_fails  h46))
                          exact Fr_eiM hf hM
          · have hf := zf h59 hf
            obtain ⟨r57, M58, h56, hf⟩ := zb2_sp hf
            have hM := Fr_tr hM (Fr_sub (by decide) (frX7_fails  h56))
            exact Fr_eiM hf hM
def tX7_lose : List (Nat × Nat) := [(62, 99999)]
set_option maxRecDepth 100000 in
theorem frX7_lose {p1 : Int32} {M : zMem} {ro : Int32} {Mo : zMem}  (hf : fX7_lose p1 M = some (ro, Mo)) : Fr tX7_lose M Mo := by
  have hM : Fr tX7_lose M M := Fr_rf
  unfold fX7_lose at hf
  obtain ⟨r2, h1, hf⟩ := zb1_sp hf
  by_cases h7 : r2 = 0
  · have hf := zt h7 hf
    exact Fr_eiM hf hM
  · have hf := zf h7 hf
    obtain ⟨h3, hf⟩ := zc_sp hf
    obtain ⟨x4, -, hf⟩ := zn_sp hf
    obtain ⟨h5, hf⟩ := zc_sp hf
    obtain ⟨M6, M6e, hf⟩ := zn_sp hf
    have hM := M6e ▸ (Fr_wA hM (c := 62) rfl)
    clear M6e
    exact Fr_eiM hf hM
def tX7_findProfile : List (Nat × Nat) := [(65, 99999)]
set_option maxRecDepth 100000 in
theorem frX7_findProfile_L2 {x1 : Int32} {M2 : zMem}  {w} (hf : fX7_findProfile_L2 x1 M2 = some w) : Fr tX7_findProfile M2 (Sum.elim (fun a => a.2) (fun a => a.2) w) := by
  have hM : Fr tX7_findProfile M2 M2 := Fr_rf
  unfold fX7_findProfile_L2 at hf
  by_cases h1005 : (201 : Int32) ≤ x1
  · have hf := zt h1005 hf
    exact Fr_el (g := Sum.elim (fun a => a.2) (fun a => a.2)) hf hM
  · have hf := zf h1005 hf
    obtain ⟨h1003, hf⟩ := zc_sp hf
    obtain ⟨M1004, M1004e, hf⟩ := zn_sp hf
    have hM := M1004e ▸ (Fr_wA hM (c := 65) rfl)
    clear M1004e
    exact Fr_el (g := Sum.elim (fun a => a.2) (fun a => a.2)) hf hM
set_option maxRecDepth 100000 in
theorem frX7_findProfile_L37 {p1 : Int32} {p2 : Int32} {x15 : Int32} {x24 : Int32} {M25 : zMem}  {w} (hf : fX7_findProfile_L37 p1 p2 x15 x24 M25 = some w) : Fr tX7_findProfile M25 (Sum.elim (fun a => a.2) (fun a => a.2) w) := by
  have hM : Fr tX7_findProfile M25 M25 := Fr_rf
  unfold fX7_findProfile_L37 at hf
  by_cases h1044 : (32 : Int32) ≤ x24
  · have hf := zt h1044 hf
    exact Fr_el (g := Sum.elim (fun a => a.2) (fun a => a.2)) hf hM
  · have hf := zf h1044 hf
    obtain ⟨r1039, h1038, hf⟩ := zb1_sp hf
    obtain ⟨h1040, hf⟩ := zc_sp hf
    obtain ⟨h1041, hf⟩ := zc_sp hf
    obtain ⟨h1042, hf⟩ := zc_sp hf
    obtain ⟨M1043, M1043e, hf⟩ := zn_sp hf
    have hM := M1043e ▸ (Fr_wA hM (c := 65) rfl)
    clear M1043e
    exact Fr_el (g := Sum.elim (fun a => a.2) (fun a => a.2)) hf hM
set_option maxRecDepth 100000 in
theorem frX7_findProfile_L26 {p1 : Int32} {p2 : Int32} {x15 : Int32} {M16 : zMem}  {w} (hf : fX7_findProfile_L26 p1 p2 x15 M16 = some w) : Fr tX7_findProfile M16 (Sum.elim (fun a => a.2) (fun a => a.2) w) := by
  have hM : Fr tX7_findProfile M16 M16 := Fr_rf
  unfold fX7_findProfile_L26 at hf
  by_cases h1033 : (M16 60 1) ≤ x15
  · have hf := zt h1033 hf
    exact Fr_el (g := Sum.elim (fun a => a.2) (fun a => a.2)) hf hM
  · have hf := zf h1033 hf
    obtain ⟨b1029, hb1030, hf⟩ := zb1_sp hf
    have hM := Fr_tr hM (zlp_fr (mem := (fun a => a.2)) (memb := (fun a => a.2)) (T := tX7_findProfile) (fun a w hw => frX7_findProfile_L37  hw) _ _ _ hb1030)
    obtain ⟨x1031, M1032⟩ := b1029
    exact Fr_el (g := Sum.elim (fun a => a.2) (fun a => a.2)) hf hM
set_option maxRecDepth 100000 in
theorem frX7_findProfile {p1 : Int32} {p2 : Int32} {M : zMem} {Mo : zMem}  (hf : fX7_findProfile p1 p2 M = some Mo) : Fr tX7_findProfile M Mo := by
  have hM : Fr tX7_findProfile M M := Fr_rf
  unfold fX7_findProfile at hf
  obtain ⟨b3, hb4, hf⟩ := zb1_sp hf
  have hM := Fr_tr hM (zlp_fr (mem := (fun a => a.2)) (memb := (fun a => a.2)) (T := tX7_findProfile) (fun a w hw => frX7_findProfile_L2  hw) _ _ _ hb4)
  obtain ⟨x5, M6⟩ := b3
  obtain ⟨b9, hb10, hf⟩ := zb1_sp hf
  have hM := Fr_tr hM (zlp_fr (mem := (fun a => a.2)) (memb := (fun a => a.2)) (T := tX7_findProfile) (fun a w hw => frX7_findProfile_L26  hw) _ _ _ hb10)
  obtain ⟨x11, M12⟩ := b9
  exact Fr_eM hf hM
def tX7_profile : List (Nat × Nat) := [(65, 99999)]
set_option maxRecDepth 100000 in
theorem frX7_profile {p1 : Int32} {p2 : Int32} {p3 : Int32} {M : zMem} {ro : Int32} {Mo : zMem}  (hf : fX7_profile p1 p2 p3 M = some (ro, Mo)) : Fr tX7_profile M Mo := by
  have hM : Fr tX7_profile M M := Fr_rf
  unfold fX7_profile at hf
  obtain ⟨r2, h1, hf⟩ := zb1_sp hf
  by_cases h12 : r2 = 0
  · have hf := zt h12 hf
    exact Fr_eiM hf hM
  · have hf := zf h12 hf
    obtain ⟨r4, h3, hf⟩ := zb1_sp hf
    by_cases h11 : r4 = 0
    · have hf := zt h11 hf
      exact Fr_eiM hf hM
    · have hf := zf h11 hf
      obtain ⟨r6, h5, hf⟩ := zb1_sp hf
      by_cases h10 : r6 = 0
      · have hf := zt h10 hf
        exact Fr_eiM hf hM
      · have hf := zf h10 hf
        obtain ⟨M8, h7, hf⟩ := zb1_sp hf
        have hM := Fr_tr hM (Fr_sub (by decide) (frX7_findProfile  h7))
        obtain ⟨h9, hf⟩ := zc_sp hf
        exact Fr_eiM hf hM
def tX7_sharpness : List (Nat × Nat) := [(65, 99999)]
set_option maxRecDepth 100000 in
theorem frX7_sharpness {p1 : Int32} {p2 : Int32} {M : zMem} {ro : Int32} {Mo : zMem}  (hf : fX7_sharpness p1 p2 M = some (ro, Mo)) : Fr tX7_sharpness M Mo := by
  have hM : Fr tX7_sharpness M M := Fr_rf
  unfold fX7_sharpness at hf
  obtain ⟨M2, h1, hf⟩ := zb1_sp hf
  have hM := Fr_tr hM (Fr_sub (by decide) (frX7_findProfile  h1))
  obtain ⟨b5, hb6, hf⟩ := zb1_sp hf
  obtain ⟨x7, x8⟩ := b5
  exact Fr_eiM hf hM
def tX7_sharp : List (Nat × Nat) := [(65, 99999)]
set_option maxRecDepth 100000 in
theorem frX7_sharp {p1 : Int32} {p2 : Int32} {M : zMem} {ro : Int32} {Mo : zMem}  (hf : fX7_sharp p1 p2 M = some (ro, Mo)) : Fr tX7_sharp M Mo := by
  have hM : Fr tX7_sharp M M := Fr_rf
  unfold fX7_sharp at hf
  obtain ⟨r2, h1, hf⟩ := zb1_sp hf
  obtain ⟨k5, k5e, hf⟩ := zj_sp hf
  have hj6 : ∀ (x3 : Int32) (M4 : zMem), Fr tX7_sharp M M4 → k5 x3 M4 = some (ro, Mo) → Fr tX7_sharp M Mo := by
    intro x3 M4 hM hf
    rw [k5e] at hf
    exact Fr_eiM hf hM
  clear k5e
  by_cases h13 : r2 = 0
  · have hf := zt h13 hf
    exact hj6 _ _ hM hf
  · have hf := zf h13 hf
    obtain ⟨r8, h7, hf⟩ := zb1_sp hf
    by_cases h12 : r8 = 0
    · have hf := zt h12 hf
      exact hj6 _ _ hM hf
    · have hf := zf h12 hf
      obtain ⟨r10, M11, h9, hf⟩ := zb2_sp hf
      have hM := Fr_tr hM (Fr_sub (by decide) (frX7_sharpness  h9))
      exact hj6 _ _ hM hf
def tX7_tryIt : List (Nat × Nat) := [(60, 7), (65, 99999), (66, 99999), (67, 99999)]
set_option maxRecDepth 100000 in
theorem frX7_tryIt {p1 : Int32} {p2 : Int32} {M : zMem} {Mo : zMem}  (hf : fX7_tryIt p1 p2 M = some Mo) : Fr tX7_tryIt M Mo := by
  have hM : Fr tX7_tryIt M M := Fr_rf
  unfold fX7_tryIt at hf
  obtain ⟨r2, h1, hf⟩ := zb1_sp hf
  obtain ⟨b5, hb6, hf⟩ := zb1_sp hf
  obtain ⟨x7, x8⟩ := b5
  obtain ⟨k10, k10e, hf⟩ := zj_sp hf
  have hj11 : ∀ (M9 : zMem), Fr tX7_tryIt M M9 → k10 M9 = some Mo → Fr tX7_tryIt M Mo := by
    intro M9 hM hf
    rw [k10e] at hf
    exact Fr_eM hf hM
  clear k10e
  by_cases h20 : x8 = 0
  · have hf := zt h20 hf
    exact hj11 _ hM hf
  · have hf := zf h20 hf
    obtain ⟨h12, hf⟩ := zc_sp hf
    obtain ⟨M13, M13e, hf⟩ := zn_sp hf
    have hM := M13e ▸ (Fr_wA hM (c := 66) rfl)
    clear M13e
    obtain ⟨r15, M16, h14, hf⟩ := zb2_sp hf
    have hM := Fr_tr hM (Fr_sub (by decide) (frX7_sharpness  h14))
    obtain ⟨h17, hf⟩ := zc_sp hf
    obtain ⟨M18, M18e, hf⟩ := zn_sp hf
    have hM := M18e ▸ (Fr_wA hM (c := 67) rfl)
    clear M18e
    obtain ⟨M19, M19e, hf⟩ := zn_sp hf
    have hM := M19e ▸ (Fr_wF hM rfl)
    clear M19e
    exact hj11 _ hM hf
def tX7_best : List (Nat × Nat) := [(60, 7), (65, 99999), (66, 99999), (67, 99999)]
set_option maxRecDepth 100000 in
theorem frX7_best_L18 {p1 : Int32} {x4 : Int32} {M5 : zMem}  {w} (hf : fX7_best_L18 p1 x4 M5 = some w) : Fr tX7_best M5 (Sum.elim (fun a => a.2) (fun a => a.2) w) := by
  have hM : Fr tX7_best M5 M5 := Fr_rf
  unfold fX7_best_L18 at hf
  by_cases h1021 : (16 : Int32) < x4
  · have hf := zt h1021 hf
    exact Fr_el (g := Sum.elim (fun a => a.2) (fun a => a.2)) hf hM
  · have hf := zf h1021 hf
    obtain ⟨M1020, h1019, hf⟩ := zb1_sp hf
    have hM := Fr_tr hM (Fr_sub (by decide) (frX7_tryIt  h1019))
    exact Fr_el (g := Sum.elim (fun a => a.2) (fun a => a.2)) hf hM
set_option maxRecDepth 100000 in
theorem frX7_best {p1 : Int32} {M : zMem} {ro : Int32} {Mo : zMem}  (hf : fX7_best p1 M = some (ro, Mo)) : Fr tX7_best M Mo := by
  have hM : Fr tX7_best M M := Fr_rf
  unfold fX7_best at hf
  obtain ⟨r2, h1, hf⟩ := zb1_sp hf
  by_cases h12 : r2 = 0
  · have hf := zt h12 hf
    exact Fr_eiM hf hM
  · have hf := zf h12 hf
    obtain ⟨M3, M3e, hf⟩ := zn_sp hf
    have hM := M3e ▸ (Fr_wF hM rfl)
    clear M3e
    obtain ⟨b6, hb7, hf⟩ := zb1_sp hf
    have hM := Fr_tr hM (zlp_fr (mem := (fun a => a.2)) (memb := (fun a => a.2)) (T := tX7_best) (fun a w hw => frX7_best_L18  hw) _ _ _ hb7)
    obtain ⟨x8, M9⟩ := b6
    obtain ⟨r11, h10, hf⟩ := zb1_sp hf
    exact Fr_eiM hf hM
def tX7_search : List (Nat × Nat) := [(60, 7), (65, 99999), (66, 99999), (67, 99999)]
set_option maxRecDepth 100000 in
theorem frX7_search_L8 {p1 : Int32} {x2 : Int32} {M3 : zMem}  {w} (hf : fX7_search_L8 p1 x2 M3 = some w) : Fr tX7_search M3 (Sum.elim (fun a => a.2) (fun a => a.2) w) := by
  have hM : Fr tX7_search M3 M3 := Fr_rf
  unfold fX7_search_L8 at hf
  by_cases h1011 : (16 : Int32) < x2
  · have hf := zt h1011 hf
    exact Fr_el (g := Sum.elim (fun a => a.2) (fun a => a.2)) hf hM
  · have hf := zf h1011 hf
    obtain ⟨M1010, h1009, hf⟩ := zb1_sp hf
    have hM := Fr_tr hM (Fr_sub (by decide) (frX7_tryIt  h1009))
    exact Fr_el (g := Sum.elim (fun a => a.2) (fun a => a.2)) hf hM
set_option maxRecDepth 100000 in
theorem frX7_search_L28 {p1 : Int32} {x16 : Int32} {M17 : zMem}  {w} (hf : fX7_search_L28 p1 x16 M17 = some w) : Fr tX7_search M17 (Sum.elim (fun a => a.2) (fun a => a.2) w) := by
  have hM : Fr tX7_search M17 M17 := Fr_rf
  unfold fX7_search_L28 at hf
  by_cases h1036 : x16 ≤ 0
  · have hf := zt h1036 hf
    exact Fr_el (g := Sum.elim (fun a => a.2) (fun a => a.2)) hf hM
  · have hf := zf h1036 hf
    obtain ⟨r1030, h1029, hf⟩ := zb1_sp hf
    obtain ⟨M1032, h1031, hf⟩ := zb1_sp hf
    have hM := Fr_tr hM (Fr_sub (by decide) (frX7_tryIt  h1031))
    obtain ⟨M1034, h1033, hf⟩ := zb1_sp hf
    have hM := Fr_tr hM (Fr_sub (by decide) (frX7_tryIt  h1033))
    obtain ⟨x1035, -, hf⟩ := zn_sp hf
    exact Fr_el (g := Sum.elim (fun a => a.2) (fun a => a.2)) hf hM
set_option maxRecDepth 100000 in
theorem frX7_search {p1 : Int32} {M : zMem} {Mo : zMem}  (hf : fX7_search p1 M = some Mo) : Fr tX7_search M Mo := by
  have hM : Fr tX7_search M M := Fr_rf
  unfold fX7_search at hf
  obtain ⟨M1, M1e, hf⟩ := zn_sp hf
  have hM := M1e ▸ (Fr_wF hM rfl)
  clear M1e
  obtain ⟨b4, hb5, hf⟩ := zb1_sp hf
  have hM := Fr_tr hM (zlp_fr (mem := (fun a => a.2)) (memb := (fun a => a.2)) (T := tX7_search) (fun a w hw => frX7_search_L8  hw) _ _ _ hb5)
  obtain ⟨x6, M7⟩ := b4
  obtain ⟨b10, hb11, hf⟩ := zb1_sp hf
  have hM := Fr_tr hM (zlp_fr (mem := (fun a => a.2)) (memb := (fun a => a.2)) (T := tX7_search) (fun a w hw => frX7_search_L28  hw) _ _ _ hb11)
  obtain ⟨x12, M13⟩ := b10
  exact Fr_eM hf hM
def tX7_found : List (Nat × Nat) := [(60, 7), (65, 99999), (66, 99999), (67, 99999)]
set_option maxRecDepth 100000 in
theorem frX7_found {p1 : Int32} {M : zMem} {ro : Int32} {Mo : zMem}  (hf : fX7_found p1 M = some (ro, Mo)) : Fr tX7_found M Mo := by
  have hM : Fr tX7_found M M := Fr_rf
  unfold fX7_found at hf
  obtain ⟨r2, h1, hf⟩ := zb1_sp hf
  by_cases h7 : r2 = 0
  · have hf := zt h7 hf
    exact Fr_eiM hf hM
  · have hf := zf h7 hf
    obtain ⟨M4, h3, hf⟩ := zb1_sp hf
    have hM := Fr_tr hM (Fr_sub (by decide) (frX7_search  h3))
    obtain ⟨r6, h5, hf⟩ := zb1_sp hf
    exact Fr_eiM hf hM
def tX7_tried : List (Nat × Nat) := [(60, 7), (65, 99999), (66, 99999), (67, 99999)]
set_option maxRecDepth 100000 in
theorem frX7_tried {p1 : Int32} {p2 : Int32} {M : zMem} {ro : Int32} {Mo : zMem}  (hf : fX7_tried p1 p2 M = some (ro, Mo)) : Fr tX7_tried M Mo := by
  have hM : Fr tX7_tried M M := Fr_rf
  unfold fX7_tried at hf
  obtain ⟨r2, h1, hf⟩ := zb1_sp hf
  by_cases h13 : r2 = 0
  · have hf := zt h13 hf
    exact Fr_eiM hf hM
  · have hf := zf h13 hf
    obtain ⟨r4, h3, hf⟩ := zb1_sp hf
    by_cases h12 : r4 = 0
    · have hf := zt h12 hf
      exact Fr_eiM hf hM
    · have hf := zf h12 hf
      obtain ⟨M6, h5, hf⟩ := zb1_sp hf
      have hM := Fr_tr hM (Fr_sub (by decide) (frX7_search  h5))
      obtain ⟨k8, k8e, hf⟩ := zj_sp hf
      have hj9 : ∀ (x7 : Int32), k8 x7 = some (ro, Mo) → Fr tX7_tried M Mo := by
        intro x7 hf
        rw [k8e] at hf
        exact Fr_eiM hf hM
      clear k8e
      by_cases h11 : (M6 60 7) ≤ p2
      · have hf := zt h11 hf
        exact hj9 _ hf
      · have hf := zf h11 hf
        obtain ⟨h10, hf⟩ := zc_sp hf
        exact hj9 _ hf
def tX7_keeps : List (Nat × Nat) := [(60, 10), (68, 99999)]
set_option maxRecDepth 100000 in
theorem frX7_keeps_L11 {x4 : Int32} {M5 : zMem}  {w} (hf : fX7_keeps_L11 x4 M5 = some w) : Fr tX7_keeps M5 (Sum.elim (fun a => a.2) (fun a => a.2) w) := by
  have hM : Fr tX7_keeps M5 M5 := Fr_rf
  unfold fX7_keeps_L11 at hf
  by_cases h1015 : (5376 : Int32) ≤ x4
  · have hf := zt h1015 hf
    exact Fr_el (g := Sum.elim (fun a => a.2) (fun a => a.2)) hf hM
  · have hf := zf h1015 hf
    obtain ⟨h1012, hf⟩ := zc_sp hf
    obtain ⟨h1013, hf⟩ := zc_sp hf
    obtain ⟨M1014, M1014e, hf⟩ := zn_sp hf
    have hM := M1014e ▸ (Fr_wA hM (c := 68) rfl)
    clear M1014e
    exact Fr_el (g := Sum.elim (fun a => a.2) (fun a => a.2)) hf hM
set_option maxRecDepth 100000 in
theorem frX7_keeps_L52 {x22 : Int32} {M23 : zMem}  {w} (hf : fX7_keeps_L52 x22 M23 = some w) : Fr tX7_keeps M23 (Sum.elim (fun a => a.2) (fun a => a.2) w) := by
  have hM : Fr tX7_keeps M23 M23 := Fr_rf
  unfold fX7_keeps_L52 at hf
  by_cases h1056 : (768 : Int32) ≤ x22
  · have hf := zt h1056 hf
    exact Fr_el (g := Sum.elim (fun a => a.2) (fun a => a.2)) hf hM
  · have hf := zf h1056 hf
    obtain ⟨h1053, hf⟩ := zc_sp hf
    obtain ⟨h1054, hf⟩ := zc_sp hf
    obtain ⟨M1055, M1055e, hf⟩ := zn_sp hf
    have hM := M1055e ▸ (Fr_wA hM (c := 68) rfl)
    clear M1055e
    exact Fr_el (g := Sum.elim (fun a => a.2) (fun a => a.2)) hf hM
set_option maxRecDepth 100000 in
theorem frX7_keeps {M : zMem} {Mo : zMem}  (hf : fX7_keeps M = some Mo) : Fr tX7_keeps M Mo := by
  have hM : Fr tX7_keeps M M := Fr_rf
  unfold fX7_keeps at hf
  obtain ⟨k2, k2e, hf⟩ := zj_sp hf
  have hj3 : ∀ (M1 : zMem), Fr tX7_keeps M M1 → k2 M1 = some Mo → Fr tX7_keeps M Mo := by
    intro M1 hM hf
    rw [k2e] at hf
    obtain ⟨b14, hb15, hf⟩ := zb1_sp hf
    have hM := Fr_tr hM (zlp_fr (mem := (fun a => a.2)) (memb := (fun a => a.2)) (T := tX7_keeps) (fun a w hw => frX7_keeps_L52  hw) _ _ _ hb15)
    obtain ⟨x16, M17⟩ := b14
    obtain ⟨M18, M18e, hf⟩ := zn_sp hf
    have hM := M18e ▸ (Fr_wF hM rfl)
    clear M18e
    exact Fr_eM hf hM
  clear k2e
  by_cases h11 : (M 60 10) = (8 : Int32)
  · have hf := zt h11 hf
    obtain ⟨b6, hb7, hf⟩ := zb1_sp hf
    have hM := Fr_tr hM (zlp_fr (mem := (fun a => a.2)) (memb := (fun a => a.2)) (T := tX7_keeps) (fun a w hw => frX7_keeps_L11  hw) _ _ _ hb7)
    obtain ⟨x8, M9⟩ := b6
    obtain ⟨M10, M10e, hf⟩ := zn_sp hf
    have hM := M10e ▸ (Fr_wF hM rfl)
    clear M10e
    exact hj3 _ hM hf
  · have hf := zf h11 hf
    exact hj3 _ hM hf
def tX7_moveAll : List (Nat × Nat) := [(60, 10), (61, 99999), (68, 99999), (69, 99999)]
set_option maxRecDepth 100000 in
theorem frX7_moveAll_L5 {x1 : Int32} {M2 : zMem}  {w} (hf : fX7_moveAll_L5 x1 M2 = some w) : Fr tX7_moveAll M2 (Sum.elim (fun a => a.2) (fun a => a.2) w) := by
  have hM : Fr tX7_moveAll M2 M2 := Fr_rf
  unfold fX7_moveAll_L5 at hf
  by_cases h1008 : (768 : Int32) ≤ x1
  · have hf := zt h1008 hf
    exact Fr_el (g := Sum.elim (fun a => a.2) (fun a => a.2)) hf hM
  · have hf := zf h1008 hf
    obtain ⟨h1006, hf⟩ := zc_sp hf
    obtain ⟨M1007, M1007e, hf⟩ := zn_sp hf
    have hM := M1007e ▸ (Fr_wA hM (c := 69) rfl)
    clear M1007e
    exact Fr_el (g := Sum.elim (fun a => a.2) (fun a => a.2)) hf hM
set_option maxRecDepth 100000 in
theorem frX7_moveAll_L30 {p1 : Int32} {p2 : Int32} {x15 : Int32} {x16 : Int32} {M17 : zMem}  {w} (hf : fX7_moveAll_L30 p1 p2 x15 x16 M17 = some w) : Fr tX7_moveAll M17 (Sum.elim (fun a => a.2.2) (Sum.elim (fun a => a.2.2) (fun r => r.2)) w) := by
  have hM : Fr tX7_moveAll M17 M17 := Fr_rf
  unfold fX7_moveAll_L30 at hf
  by_cases h1039 : ((32 : Int32) * (M17 60 1)) ≤ x15
  · have hf := zt h1039 hf
    exact Fr_el (g := Sum.elim (fun a => a.2.2) (Sum.elim (fun a => a.2.2) (fun r => r.2))) hf hM
  · have hf := zf h1039 hf
    obtain ⟨h1031, hf⟩ := zc_sp hf
    by_cases h1038 : (M17 61 x15.toNatClampNeg) = 0
    · have hf := zt h1038 hf
      exact Fr_el (g := Sum.elim (fun a => a.2.2) (Sum.elim (fun a => a.2.2) (fun r => r.2))) hf hM
    · have hf := zf h1038 hf
      obtain ⟨r1033, h1032, hf⟩ := zb1_sp hf
      by_cases h1037 : r1033 = (-9 : Int32)
      · have hf := zt h1037 hf
        exact Fr_el (g := Sum.elim (fun a => a.2.2) (Sum.elim (fun a => a.2.2) (fun r => r.2))) hf hM
      · have hf := zf h1037 hf
        obtain ⟨h1034, hf⟩ := zc_sp hf
        obtain ⟨M1035, M1035e, hf⟩ := zn_sp hf
        have hM := M1035e ▸ (Fr_wA hM (c := 69) rfl)
        clear M1035e
        obtain ⟨x1036, -, hf⟩ := zn_sp hf
        exact Fr_el (g := Sum.elim (fun a => a.2.2) (Sum.elim (fun a => a.2.2) (fun r => r.2))) hf hM
set_option maxRecDepth 100000 in
theorem frX7_moveAll_L116 {x40 : Int32} {M41 : zMem}  {w} (hf : fX7_moveAll_L116 x40 M41 = some w) : Fr tX7_moveAll M41 (Sum.elim (fun a => a.2) (fun a => a.2) w) := by
  have hM : Fr tX7_moveAll M41 M41 := Fr_rf
  unfold fX7_moveAll_L116 at hf
  by_cases h1120 : (768 : Int32) ≤ x40
  · have hf := zt h1120 hf
    exact Fr_el (g := Sum.elim (fun a => a.2) (fun a => a.2)) hf hM
  · have hf := zf h1120 hf
    obtain ⟨h1117, hf⟩ := zc_sp hf
    obtain ⟨h1118, hf⟩ := zc_sp hf
    obtain ⟨M1119, M1119e, hf⟩ := zn_sp hf
    have hM := M1119e ▸ (Fr_wA hM (c := 61) rfl)
    clear M1119e
    exact Fr_el (g := Sum.elim (fun a => a.2) (fun a => a.2)) hf hM
set_option maxRecDepth 100000 in
theorem frX7_moveAll {p1 : Int32} {p2 : Int32} {M : zMem} {ro : Int32} {Mo : zMem}  (hf : fX7_moveAll p1 p2 M = some (ro, Mo)) : Fr tX7_moveAll M Mo := by
  have hM : Fr tX7_moveAll M M := Fr_rf
  unfold fX7_moveAll at hf
  obtain ⟨b3, hb4, hf⟩ := zb1_sp hf
  have hM := Fr_tr hM (zlp_fr (mem := (fun a => a.2)) (memb := (fun a => a.2)) (T := tX7_moveAll) (fun a w hw => frX7_moveAll_L5  hw) _ _ _ hb4)
  obtain ⟨x5, M6⟩ := b3
  obtain ⟨b10, hb11, hf⟩ := zbr_sp hf
  have hM := Fr_tr hM (zlp_fr (mem := (fun a => a.2.2)) (memb := (Sum.elim (fun a => a.2.2) (fun r => r.2))) (T := tX7_moveAll) (fun a w hw => frX7_moveAll_L30  hw) _ _ _ hb11)
  rcases b10 with b10 | b10
  · obtain ⟨x12, x13, M14⟩ := b10
    obtain ⟨M16, h15, hf⟩ := zb1_sp hf
    have hM := Fr_tr hM (Fr_sub (by decide) (frX7_keeps  h15))
    obtain ⟨b19, hb20, hf⟩ := zb1_sp hf
    have hM := Fr_tr hM (zlp_fr (mem := (fun a => a.2)) (memb := (fun a => a.2)) (T := tX7_moveAll) (fun a w hw => frX7_moveAll_L116  hw) _ _ _ hb20)
    obtain ⟨x21, M22⟩ := b19
    exact Fr_eiM hf hM
  · obtain ⟨r23, r24⟩ := b10
    exact Fr_eiM hf hM
def tX7_shear : List (Nat × Nat) := [(60, 10), (61, 99999), (68, 99999), (69, 99999)]
set_option maxRecDepth 100000 in
theorem frX7_shear {p1 : Int32} {p2 : Int32} {M : zMem} {ro : Int32} {Mo : zMem}  (hf : fX7_shear p1 p2 M = some (ro, Mo)) : Fr tX7_shear M Mo := by
  have hM : Fr tX7_shear M M := Fr_rf
  unfold fX7_shear at hf
  obtain ⟨r2, h1, hf⟩ := zb1_sp hf
  obtain ⟨k5, k5e, hf⟩ := zj_sp hf
  have hj6 : ∀ (x3 : Int32) (M4 : zMem), Fr tX7_shear M M4 → k5 x3 M4 = some (ro, Mo) → Fr tX7_shear M Mo := by
    intro x3 M4 hM hf
    rw [k5e] at hf
    exact Fr_eiM hf hM
  clear k5e
  by_cases h13 : r2 = 0
  · have hf := zt h13 hf
    exact hj6 _ _ hM hf
  · have hf := zf h13 hf
    obtain ⟨r8, h7, hf⟩ := zb1_sp hf
    by_cases h12 : r8 = 0
    · have hf := zt h12 hf
      exact hj6 _ _ hM hf
    · have hf := zf h12 hf
      obtain ⟨r10, M11, h9, hf⟩ := zb2_sp hf
      have hM := Fr_tr hM (Fr_sub (by decide) (frX7_moveAll  h9))
      exact hj6 _ _ hM hf
def tX7_back : List (Nat × Nat) := [(60, 10), (61, 99999)]
set_option maxRecDepth 100000 in
theorem frX7_back_L22 {x2 : Int32} {M3 : zMem}  {w} (hf : fX7_back_L22 x2 M3 = some w) : Fr tX7_back M3 (Sum.elim (fun a => a.2) (fun a => a.2) w) := by
  have hM : Fr tX7_back M3 M3 := Fr_rf
  unfold fX7_back_L22 at hf
  by_cases h1026 : (768 : Int32) ≤ x2
  · have hf := zt h1026 hf
    exact Fr_el (g := Sum.elim (fun a => a.2) (fun a => a.2)) hf hM
  · have hf := zf h1026 hf
    obtain ⟨h1023, hf⟩ := zc_sp hf
    obtain ⟨h1024, hf⟩ := zc_sp hf
    obtain ⟨M1025, M1025e, hf⟩ := zn_sp hf
    have hM := M1025e ▸ (Fr_wA hM (c := 61) rfl)
    clear M1025e
    exact Fr_el (g := Sum.elim (fun a => a.2) (fun a => a.2)) hf hM
set_option maxRecDepth 100000 in
theorem frX7_back {M : zMem} {ro : Int32} {Mo : zMem}  (hf : fX7_back M = some (ro, Mo)) : Fr tX7_back M Mo := by
  have hM : Fr tX7_back M M := Fr_rf
  unfold fX7_back at hf
  by_cases h8 : (M 60 10) = 0
  · have hf := zt h8 hf
    exact Fr_eiM hf hM
  · have hf := zf h8 hf
    obtain ⟨M1, M1e, hf⟩ := zn_sp hf
    have hM := M1e ▸ (Fr_wF hM rfl)
    clear M1e
    obtain ⟨b4, hb5, hf⟩ := zb1_sp hf
    have hM := Fr_tr hM (zlp_fr (mem := (fun a => a.2)) (memb := (fun a => a.2)) (T := tX7_back) (fun a w hw => frX7_back_L22  hw) _ _ _ hb5)
    obtain ⟨x6, M7⟩ := b4
    exact Fr_eiM hf hM
def tX7_findRuns : List (Nat × Nat) := [(60, 13), (70, 99999), (71, 99999), (72, 99999), (73, 99999)]
set_option maxRecDepth 100000 in
theorem frX7_findRuns_L15 {x2 : Int32} {x11 : Int32} {M12 : zMem}  {w} (hf : fX7_findRuns_L15 x2 x11 M12 = some w) : Fr tX7_findRuns M12 (Sum.elim (fun a => a.2) (fun a => a.2) w) := by
  have hM : Fr tX7_findRuns M12 M12 := Fr_rf
  unfold fX7_findRuns_L15 at hf
  by_cases h1043 : (M12 60 1) ≤ x11
  · have hf := zt h1043 hf
    exact Fr_el (g := Sum.elim (fun a => a.2) (fun a => a.2)) hf hM
  · have hf := zf h1043 hf
    obtain ⟨r1017, h1016, hf⟩ := zb1_sp hf
    obtain ⟨k1019, k1019e, hf⟩ := zj_sp hf
    have hj1020 : ∀ (M1018 : zMem), Fr tX7_findRuns M12 M1018 → k1019 M1018 = some w → Fr tX7_findRuns M12 (Sum.elim (fun a => a.2) (fun a => a.2) w) := by
      intro M1018 hM hf
      rw [k1019e] at hf
      obtain ⟨r1035, h1034, hf⟩ := zb1_sp hf
      obtain ⟨k1037, k1037e, hf⟩ := zj_sp hf
      have hj1038 : ∀ (M1036 : zMem), Fr tX7_findRuns M12 M1036 → k1037 M1036 = some w → Fr tX7_findRuns M12 (Sum.elim (fun a => a.2) (fun a => a.2) w) := by
        intro M1036 hM hf
        rw [k1037e] at hf
        exact Fr_el (g := Sum.elim (fun a => a.2) (fun a => a.2)) hf hM
      clear k1037e
      by_cases h1042 : r1035 = 0
      · have hf := zt h1042 hf
        exact hj1038 _ hM hf
      · have hf := zf h1042 hf
        obtain ⟨h1039, hf⟩ := zc_sp hf
        obtain ⟨h1040, hf⟩ := zc_sp hf
        obtain ⟨M1041, M1041e, hf⟩ := zn_sp hf
        have hM := M1041e ▸ (Fr_wA hM (c := 72) rfl)
        clear M1041e
        exact hj1038 _ hM hf
    clear k1019e
    by_cases h1033 : r1017 = 0
    · have hf := zt h1033 hf
      exact hj1020 _ hM hf
    · have hf := zf h1033 hf
      obtain ⟨r1022, h1021, hf⟩ := zb1_sp hf
      by_cases h1032 : r1022 = 0
      · have hf := zt h1032 hf
        obtain ⟨h1023, hf⟩ := zc_sp hf
        obtain ⟨M1024, M1024e, hf⟩ := zn_sp hf
        have hM := M1024e ▸ (Fr_wA hM (c := 70) rfl)
        clear M1024e
        obtain ⟨h1025, hf⟩ := zc_sp hf
        obtain ⟨M1026, M1026e, hf⟩ := zn_sp hf
        have hM := M1026e ▸ (Fr_wA hM (c := 71) rfl)
        clear M1026e
        obtain ⟨h1027, hf⟩ := zc_sp hf
        obtain ⟨M1028, M1028e, hf⟩ := zn_sp hf
        have hM := M1028e ▸ (Fr_wA hM (c := 72) rfl)
        clear M1028e
        obtain ⟨h1029, hf⟩ := zc_sp hf
        obtain ⟨M1030, M1030e, hf⟩ := zn_sp hf
        have hM := M1030e ▸ (Fr_wA hM (c := 73) rfl)
        clear M1030e
        obtain ⟨M1031, M1031e, hf⟩ := zn_sp hf
        have hM := M1031e ▸ (Fr_wF hM rfl)
        clear M1031e
        exact hj1020 _ hM hf
      · have hf := zf h1032 hf
        exact hj1020 _ hM hf
set_option maxRecDepth 100000 in
theorem frX7_findRuns_L7 {x2 : Int32} {M3 : zMem}  {w} (hf : fX7_findRuns_L7 x2 M3 = some w) : Fr tX7_findRuns M3 (Sum.elim (fun a => a.2) (fun a => a.2) w) := by
  have hM : Fr tX7_findRuns M3 M3 := Fr_rf
  unfold fX7_findRuns_L7 at hf
  by_cases h1014 : (32 : Int32) ≤ x2
  · have hf := zt h1014 hf
    exact Fr_el (g := Sum.elim (fun a => a.2) (fun a => a.2)) hf hM
  · have hf := zf h1014 hf
    obtain ⟨b1010, hb1011, hf⟩ := zb1_sp hf
    have hM := Fr_tr hM (zlp_fr (mem := (fun a => a.2)) (memb := (fun a => a.2)) (T := tX7_findRuns) (fun a w hw => frX7_findRuns_L15  hw) _ _ _ hb1011)
    obtain ⟨x1012, M1013⟩ := b1010
    exact Fr_el (g := Sum.elim (fun a => a.2) (fun a => a.2)) hf hM
set_option maxRecDepth 100000 in
theorem frX7_findRuns {M : zMem} {Mo : zMem}  (hf : fX7_findRuns M = some Mo) : Fr tX7_findRuns M Mo := by
  have hM : Fr tX7_findRuns M M := Fr_rf
  unfold fX7_findRuns at hf
  obtain ⟨M1, M1e, hf⟩ := zn_sp hf
  have hM := M1e ▸ (Fr_wF hM rfl)
  clear M1e
  obtain ⟨b4, hb5, hf⟩ := zb1_sp hf
  have hM := Fr_tr hM (zlp_fr (mem := (fun a => a.2)) (memb := (fun a => a.2)) (T := tX7_findRuns) (fun a w hw => frX7_findRuns_L7  hw) _ _ _ hb5)
  obtain ⟨x6, M7⟩ := b4
  exact Fr_eM hf hM
def tX7_spreads : List (Nat × Nat) := [(73, 99999)]
set_option maxRecDepth 100000 in
theorem frX7_spreads_L21 {p1 : Int32} {x10 : Int32} {x20 : Int32} {x21 : Int32} {M22 : zMem}  {w} (hf : fX7_spreads_L21 p1 x10 x20 x21 M22 = some w) : Fr tX7_spreads M22 (Sum.elim (fun a => a.2.2) (fun a => a.2.2) w) := by
  have hM : Fr tX7_spreads M22 M22 := Fr_rf
  unfold fX7_spreads_L21 at hf
  by_cases h1035 : (M22 60 13) ≤ x20
  · have hf := zt h1035 hf
    exact Fr_el (g := Sum.elim (fun a => a.2.2) (fun a => a.2.2)) hf hM
  · have hf := zf h1035 hf
    obtain ⟨h1022, hf⟩ := zc_sp hf
    by_cases h1034 : (M22 73 x10.toNatClampNeg) = (-9 : Int32)
    · have hf := zt h1034 hf
      obtain ⟨h1023, hf⟩ := zc_sp hf
      obtain ⟨k1026, k1026e, hf⟩ := zj_sp hf
      have hj1027 : ∀ (x1024 : Int32) (M1025 : zMem), Fr tX7_spreads M22 M1025 → k1026 x1024 M1025 = some w → Fr tX7_spreads M22 (Sum.elim (fun a => a.2.2) (fun a => a.2.2) w) := by
        intro x1024 M1025 hM hf
        rw [k1026e] at hf
        exact Fr_el (g := Sum.elim (fun a => a.2.2) (fun a => a.2.2)) hf hM
      clear k1026e
      by_cases h1033 : (M22 73 x20.toNatClampNeg) = p1
      · have hf := zt h1033 hf
        obtain ⟨r1029, h1028, hf⟩ := zb1_sp hf
        by_cases h1032 : r1029 = 0
        · have hf := zt h1032 hf
          exact hj1027 _ _ hM hf
        · have hf := zf h1032 hf
          obtain ⟨h1030, hf⟩ := zc_sp hf
          obtain ⟨M1031, M1031e, hf⟩ := zn_sp hf
          have hM := M1031e ▸ (Fr_wA hM (c := 73) rfl)
          clear M1031e
          exact hj1027 _ _ hM hf
      · have hf := zf h1033 hf
        exact hj1027 _ _ hM hf
    · have hf := zf h1034 hf
      exact Fr_el (g := Sum.elim (fun a => a.2.2) (fun a => a.2.2)) hf hM
set_option maxRecDepth 100000 in
theorem frX7_spreads_L10 {p1 : Int32} {x10 : Int32} {x11 : Int32} {M12 : zMem}  {w} (hf : fX7_spreads_L10 p1 x10 x11 M12 = some w) : Fr tX7_spreads M12 (Sum.elim (fun a => a.2.2) (fun a => a.2.2) w) := by
  have hM : Fr tX7_spreads M12 M12 := Fr_rf
  unfold fX7_spreads_L10 at hf
  by_cases h1019 : (M12 60 13) ≤ x10
  · have hf := zt h1019 hf
    exact Fr_el (g := Sum.elim (fun a => a.2.2) (fun a => a.2.2)) hf hM
  · have hf := zf h1019 hf
    obtain ⟨b1014, hb1015, hf⟩ := zb1_sp hf
    have hM := Fr_tr hM (zlp_fr (mem := (fun a => a.2.2)) (memb := (fun a => a.2.2)) (T := tX7_spreads) (fun a w hw => frX7_spreads_L21  hw) _ _ _ hb1015)
    obtain ⟨x1016, x1017, M1018⟩ := b1014
    exact Fr_el (g := Sum.elim (fun a => a.2.2) (fun a => a.2.2)) hf hM
set_option maxRecDepth 100000 in
theorem frX7_spreads_L2 {p1 : Int32} {x1 : Int32} {M2 : zMem}  {w} (hf : fX7_spreads_L2 p1 x1 M2 = some w) : Fr tX7_spreads M2 (Sum.elim (fun a => a.2) (fun a => a.2) w) := by
  have hM : Fr tX7_spreads M2 M2 := Fr_rf
  unfold fX7_spreads_L2 at hf
  by_cases h1011 : x1 = 0
  · have hf := zt h1011 hf
    exact Fr_el (g := Sum.elim (fun a => a.2) (fun a => a.2)) hf hM
  · have hf := zf h1011 hf
    obtain ⟨b1006, hb1007, hf⟩ := zb1_sp hf
    have hM := Fr_tr hM (zlp_fr (mem := (fun a => a.2.2)) (memb := (fun a => a.2.2)) (T := tX7_spreads) (fun a w hw => frX7_spreads_L10  hw) _ _ _ hb1007)
    obtain ⟨x1008, x1009, M1010⟩ := b1006
    exact Fr_el (g := Sum.elim (fun a => a.2) (fun a => a.2)) hf hM
set_option maxRecDepth 100000 in
theorem frX7_spreads {p1 : Int32} {M : zMem} {Mo : zMem}  (hf : fX7_spreads p1 M = some Mo) : Fr tX7_spreads M Mo := by
  have hM : Fr tX7_spreads M M := Fr_rf
  unfold fX7_spreads at hf
  obtain ⟨b3, hb4, hf⟩ := zb1_sp hf
  have hM := Fr_tr hM (zlp_fr (mem := (fun a => a.2)) (memb := (fun a => a.2)) (T := tX7_spreads) (fun a w hw => frX7_spreads_L2  hw) _ _ _ hb4)
  obtain ⟨x5, M6⟩ := b3
  exact Fr_eM hf hM
def tX7_findStrokes : List (Nat × Nat) := [(60, 13), (60, 18), (70, 99999), (71, 99999), (72, 99999), (73, 99999)]
set_option maxRecDepth 100000 in
theorem frX7_findStrokes_L11 {x4 : Int32} {M5 : zMem}  {w} (hf : fX7_findStrokes_L11 x4 M5 = some w) : Fr tX7_findStrokes M5 (Sum.elim (fun a => a.2) (fun a => a.2) w) := by
  have hM : Fr tX7_findStrokes M5 M5 := Fr_rf
  unfold fX7_findStrokes_L11 at hf
  by_cases h1022 : (M5 60 13) ≤ x4
  · have hf := zt h1022 hf
    exact Fr_el (g := Sum.elim (fun a => a.2) (fun a => a.2)) hf hM
  · have hf := zf h1022 hf
    obtain ⟨h1012, hf⟩ := zc_sp hf
    obtain ⟨k1014, k1014e, hf⟩ := zj_sp hf
    have hj1015 : ∀ (M1013 : zMem), Fr tX7_findStrokes M5 M1013 → k1014 M1013 = some w → Fr tX7_findStrokes M5 (Sum.elim (fun a => a.2) (fun a => a.2) w) := by
      intro M1013 hM hf
      rw [k1014e] at hf
      exact Fr_el (g := Sum.elim (fun a => a.2) (fun a => a.2)) hf hM
    clear k1014e
    by_cases h1021 : (M5 73 x4.toNatClampNeg) = (-9 : Int32)
    · have hf := zt h1021 hf
      obtain ⟨h1016, hf⟩ := zc_sp hf
      obtain ⟨M1017, M1017e, hf⟩ := zn_sp hf
      have hM := M1017e ▸ (Fr_wA hM (c := 73) rfl)
      clear M1017e
      obtain ⟨M1019, h1018, hf⟩ := zb1_sp hf
      have hM := Fr_tr hM (Fr_sub (by decide) (frX7_spreads  h1018))
      obtain ⟨M1020, M1020e, hf⟩ := zn_sp hf
      have hM := M1020e ▸ (Fr_wF hM rfl)
      clear M1020e
      exact hj1015 _ hM hf
    · have hf := zf h1021 hf
      exact hj1015 _ hM hf
set_option maxRecDepth 100000 in
theorem frX7_findStrokes {M : zMem} {Mo : zMem}  (hf : fX7_findStrokes M = some Mo) : Fr tX7_findStrokes M Mo := by
  have hM : Fr tX7_findStrokes M M := Fr_rf
  unfold fX7_findStrokes at hf
  obtain ⟨M2, h1, hf⟩ := zb1_sp hf
  have hM := Fr_tr hM (Fr_sub (by decide) (frX7_findRuns  h1))
  obtain ⟨M3, M3e, hf⟩ := zn_sp hf
  have hM := M3e ▸ (Fr_wF hM rfl)
  clear M3e
  obtain ⟨b6, hb7, hf⟩ := zb1_sp hf
  have hM := Fr_tr hM (zlp_fr (mem := (fun a => a.2)) (memb := (fun a => a.2)) (T := tX7_findStrokes) (fun a w hw => frX7_findStrokes_L11  hw) _ _ _ hb7)
  obtain ⟨x8, M9⟩ := b6
  exact Fr_eM hf hM
def tX7_run : List (Nat × Nat) := [(60, 13), (60, 18), (70, 99999), (71, 99999), (72, 99999), (73, 99999)]
set_option maxRecDepth 100000 in
theorem frX7_run {p1 : Int32} {p2 : Int32} {M : zMem} {ro : Int32} {Mo : zMem}  (hf : fX7_run p1 p2 M = some (ro, Mo)) : Fr tX7_run M Mo := by
  have hM : Fr tX7_run M M := Fr_rf
  unfold fX7_run at hf
  obtain ⟨M2, h1, hf⟩ := zb1_sp hf
  have hM := Fr_tr hM (Fr_sub (by decide) (frX7_findStrokes  h1))
  obtain ⟨r4, h3, hf⟩ := zb1_sp hf
  by_cases h13 : r4 = 0
  · have hf := zt h13 hf
    exact Fr_eiM hf hM
  · have hf := zf h13 hf
    by_cases h5 : p2 = (0 : Int32)
    · have hf := zt h5 hf
      obtain ⟨h6, hf⟩ := zc_sp hf
      exact Fr_eiM hf hM
    · have hf := zf h5 hf
      by_cases h7 : p2 = (1 : Int32)
      · have hf := zt h7 hf
        obtain ⟨h8, hf⟩ := zc_sp hf
        exact Fr_eiM hf hM
      · have hf := zf h7 hf
        by_cases h9 : p2 = (2 : Int32)
        · have hf := zt h9 hf
          obtain ⟨h10, hf⟩ := zc_sp hf
          exact Fr_eiM hf hM
        · have hf := zf h9 hf
          by_cases h11 : p2 = (3 : Int32)
          · have hf := zt h11 hf
            obtain ⟨h12, hf⟩ := zc_sp hf
            exact Fr_eiM hf hM
          · have hf := zf h11 hf
            exact Fr_eiM hf hM
def tX7_stroke : List (Nat × Nat) := [(60, 13), (60, 18), (70, 99999), (71, 99999), (72, 99999), (73, 99999)]
set_option maxRecDepth 100000 in
theorem frX7_stroke {p1 : Int32} {p2 : Int32} {M : zMem} {ro : Int32} {Mo : zMem}  (hf : fX7_stroke p1 p2 M = some (ro, Mo)) : Fr tX7_stroke M Mo := by
  have hM : Fr tX7_stroke M M := Fr_rf
  unfold fX7_stroke at hf
  obtain ⟨M2, h1, hf⟩ := zb1_sp hf
  have hM := Fr_tr hM (Fr_sub (by decide) (frX7_findStrokes  h1))
  obtain ⟨r4, h3, hf⟩ := zb1_sp hf
  by_cases h29 : r4 = 0
  · have hf := zt h29 hf
    exact Fr_eiM hf hM
  · have hf := zf h29 hf
    obtain ⟨r6, h5, hf⟩ := zb1_sp hf
    by_cases h28 : r6 = 0
    · have hf := zt h28 hf
      exact Fr_eiM hf hM
    · have hf := zf h28 hf
      obtain ⟨b14, hb15, hf⟩ := zb1_sp hf
      obtain ⟨x16, x17, x18, x19, x20, x21, x22⟩ := b14
      by_cases h23 : p2 = (0 : Int32)
      · have hf := zt h23 hf
        exact Fr_eiM hf hM
      · have hf := zf h23 hf
        by_cases h24 : p2 = (1 : Int32)
        · have hf := zt h24 hf
          exact Fr_eiM hf hM
        · have hf := zf h24 hf
          by_cases h25 : p2 = (2 : Int32)
          · have hf := zt h25 hf
            exact Fr_eiM hf hM
          · have hf := zf h25 hf
            by_cases h26 : p2 = (3 : Int32)
            · have hf := zt h26 hf
              exact Fr_eiM hf hM
            · have hf := zf h26 hf
              by_cases h27 : p2 = (4 : Int32)
              · have hf := zt h27 hf
                exact Fr_eiM hf hM
              · have hf := zf h27 hf
                exact Fr_eiM hf hM
def tX7_findLeads : List (Nat × Nat) := [(74, 99999)]
set_option maxRecDepth 100000 in
theorem frX7_findLeads_L13 {x2 : Int32} {x11 : Int32} {M12 : zMem}  {w} (hf : fX7_findLeads_L13 x2 x11 M12 = some w) : Fr tX7_findLeads M12 (Sum.elim (fun a => a.2) (fun a => a.2) w) := by
  have hM : Fr tX7_findLeads M12 M12 := Fr_rf
  unfold fX7_findLeads_L13 at hf
  by_cases h1025 : (32 : Int32) ≤ x11
  · have hf := zt h1025 hf
    exact Fr_el (g := Sum.elim (fun a => a.2) (fun a => a.2)) hf hM
  · have hf := zf h1025 hf
    obtain ⟨x1014, -, hf⟩ := zn_sp hf
    obtain ⟨b1017, hb1018, hf⟩ := zb1_sp hf
    obtain ⟨x1019, x1020⟩ := b1017
    obtain ⟨r1022, h1021, hf⟩ := zb1_sp hf
    obtain ⟨h1023, hf⟩ := zc_sp hf
    obtain ⟨M1024, M1024e, hf⟩ := zn_sp hf
    have hM := M1024e ▸ (Fr_wA hM (c := 74) rfl)
    clear M1024e
    exact Fr_el (g := Sum.elim (fun a => a.2) (fun a => a.2)) hf hM
set_option maxRecDepth 100000 in
theorem frX7_findLeads_L7 {x2 : Int32} {M3 : zMem}  {w} (hf : fX7_findLeads_L7 x2 M3 = some w) : Fr tX7_findLeads M3 (Sum.elim (fun a => a.2) (fun a => a.2) w) := by
  have hM : Fr tX7_findLeads M3 M3 := Fr_rf
  unfold fX7_findLeads_L7 at hf
  by_cases h1014 : x2 < 0
  · have hf := zt h1014 hf
    exact Fr_el (g := Sum.elim (fun a => a.2) (fun a => a.2)) hf hM
  · have hf := zf h1014 hf
    obtain ⟨b1010, hb1011, hf⟩ := zb1_sp hf
    have hM := Fr_tr hM (zlp_fr (mem := (fun a => a.2)) (memb := (fun a => a.2)) (T := tX7_findLeads) (fun a w hw => frX7_findLeads_L13  hw) _ _ _ hb1011)
    obtain ⟨x1012, M1013⟩ := b1010
    exact Fr_el (g := Sum.elim (fun a => a.2) (fun a => a.2)) hf hM
set_option maxRecDepth 100000 in
theorem frX7_findLeads {M : zMem} {Mo : zMem}  (hf : fX7_findLeads M = some Mo) : Fr tX7_findLeads M Mo := by
  have hM : Fr tX7_findLeads M M := Fr_rf
  unfold fX7_findLeads at hf
  obtain ⟨x1, -, hf⟩ := zn_sp hf
  obtain ⟨b4, hb5, hf⟩ := zb1_sp hf
  have hM := Fr_tr hM (zlp_fr (mem := (fun a => a.2)) (memb := (fun a => a.2)) (T := tX7_findLeads) (fun a w hw => frX7_findLeads_L7  hw) _ _ _ hb5)
  obtain ⟨x6, M7⟩ := b4
  exact Fr_eM hf hM
def tX7_findBaseline : List (Nat × Nat) := [(60, 20), (60, 21), (74, 99999), (75, 99999)]
set_option maxRecDepth 100000 in
theorem frX7_findBaseline_L11 {x4 : Int32} {M5 : zMem}  {w} (hf : fX7_findBaseline_L11 x4 M5 = some w) : Fr tX7_findBaseline M5 (Sum.elim (fun a => a.2) (fun a => a.2) w) := by
  have hM : Fr tX7_findBaseline M5 M5 := Fr_rf
  unfold fX7_findBaseline_L11 at hf
  by_cases h1020 : ((32 : Int32) * (M5 60 1)) ≤ x4
  · have hf := zt h1020 hf
    exact Fr_el (g := Sum.elim (fun a => a.2) (fun a => a.2)) hf hM
  · have hf := zf h1020 hf
    obtain ⟨h1012, hf⟩ := zc_sp hf
    obtain ⟨k1014, k1014e, hf⟩ := zj_sp hf
    have hj1015 : ∀ (M1013 : zMem), Fr tX7_findBaseline M5 M1013 → k1014 M1013 = some w → Fr tX7_findBaseline M5 (Sum.elim (fun a => a.2) (fun a => a.2) w) := by
      intro M1013 hM hf
      rw [k1014e] at hf
      exact Fr_el (g := Sum.elim (fun a => a.2) (fun a => a.2)) hf hM
    clear k1014e
    by_cases h1019 : (M5 74 x4.toNatClampNeg) ≤ (M5 60 21)
    · have hf := zt h1019 hf
      exact hj1015 _ hM hf
    · have hf := zf h1019 hf
      obtain ⟨h1016, hf⟩ := zc_sp hf
      obtain ⟨M1017, M1017e, hf⟩ := zn_sp hf
      have hM := M1017e ▸ (Fr_wF hM rfl)
      clear M1017e
      obtain ⟨M1018, M1018e, hf⟩ := zn_sp hf
      have hM := M1018e ▸ (Fr_wF hM rfl)
      clear M1018e
      exact hj1015 _ hM hf
set_option maxRecDepth 100000 in
theorem frX7_findBaseline_L66 {x24 : Int32} {x25 : Int32} {x26 : Int32} {M27 : zMem}  {w} (hf : fX7_findBaseline_L66 x24 x25 x26 M27 = some w) : Fr tX7_findBaseline M27 (Sum.elim (fun a => a.2.2.2) (fun a => a.2.2.2) w) := by
  have hM : Fr tX7_findBaseline M27 M27 := Fr_rf
  unfold fX7_findBaseline_L66 at hf
  by_cases h1073 : (M27 60 21) ≤ x24
  · have hf := zt h1073 hf
    exact Fr_el (g := Sum.elim (fun a => a.2.2.2) (fun a => a.2.2.2)) hf hM
  · have hf := zf h1073 hf
    obtain ⟨r1068, h1067, hf⟩ := zb1_sp hf
    obtain ⟨h1069, hf⟩ := zc_sp hf
    obtain ⟨M1070, M1070e, hf⟩ := zn_sp hf
    have hM := M1070e ▸ (Fr_wA hM (c := 75) rfl)
    clear M1070e
    obtain ⟨x1071, -, hf⟩ := zn_sp hf
    obtain ⟨x1072, -, hf⟩ := zn_sp hf
    exact Fr_el (g := Sum.elim (fun a => a.2.2.2) (fun a => a.2.2.2)) hf hM
set_option maxRecDepth 100000 in
theorem frX7_findBaseline {M : zMem} {Mo : zMem}  (hf : fX7_findBaseline M = some Mo) : Fr tX7_findBaseline M Mo := by
  have hM : Fr tX7_findBaseline M M := Fr_rf
  unfold fX7_findBaseline at hf
  obtain ⟨M2, h1, hf⟩ := zb1_sp hf
  have hM := Fr_tr hM (Fr_sub (by decide) (frX7_findLeads  h1))
  obtain ⟨M3, M3e, hf⟩ := zn_sp hf
  have hM := M3e ▸ (Fr_wF hM rfl)
  clear M3e
  obtain ⟨b6, hb7, hf⟩ := zb1_sp hf
  have hM := Fr_tr hM (zlp_fr (mem := (fun a => a.2)) (memb := (fun a => a.2)) (T := tX7_findBaseline) (fun a w hw => frX7_findBaseline_L11  hw) _ _ _ hb7)
  obtain ⟨x8, M9⟩ := b6
  obtain ⟨b14, hb15, hf⟩ := zb1_sp hf
  have hM := Fr_tr hM (zlp_fr (mem := (fun a => a.2.2.2)) (memb := (fun a => a.2.2.2)) (T := tX7_findBaseline) (fun a w hw => frX7_findBaseline_L66  hw) _ _ _ hb15)
  obtain ⟨x16, x17, x18, M19⟩ := b14
  exact Fr_eM hf hM
def tX7_findCurls : List (Nat × Nat) := [(76, 99999)]
set_option maxRecDepth 100000 in
theorem frX7_findCurls_L14 {x1 : Int32} {x2 : Int32} {M3 : zMem}  {w} (hf : fX7_findCurls_L14 x1 x2 M3 = some w) : Fr tX7_findCurls M3 (Sum.elim (fun a => a.2) (fun a => a.2) w) := by
  have hM : Fr tX7_findCurls M3 M3 := Fr_rf
  unfold fX7_findCurls_L14 at hf
  by_cases h1021 : (M3 60 1) ≤ x2
  · have hf := zt h1021 hf
    exact Fr_el (g := Sum.elim (fun a => a.2) (fun a => a.2)) hf hM
  · have hf := zf h1021 hf
    obtain ⟨x1015, -, hf⟩ := zn_sp hf
    obtain ⟨h1016, hf⟩ := zc_sp hf
    obtain ⟨r1018, h1017, hf⟩ := zb1_sp hf
    obtain ⟨h1019, hf⟩ := zc_sp hf
    obtain ⟨M1020, M1020e, hf⟩ := zn_sp hf
    have hM := M1020e ▸ (Fr_wA hM (c := 76) rfl)
    clear M1020e
    exact Fr_el (g := Sum.elim (fun a => a.2) (fun a => a.2)) hf hM
set_option maxRecDepth 100000 in
theorem frX7_findCurls {M : zMem} {Mo : zMem}  (hf : fX7_findCurls M = some Mo) : Fr tX7_findCurls M Mo := by
  have hM : Fr tX7_findCurls M M := Fr_rf
  unfold fX7_findCurls at hf
  obtain ⟨x1, -, hf⟩ := zn_sp hf
  obtain ⟨b4, hb5, hf⟩ := zb1_sp hf
  have hM := Fr_tr hM (zlp_fr (mem := (fun a => a.2)) (memb := (fun a => a.2)) (T := tX7_findCurls) (fun a w hw => frX7_findCurls_L14  hw) _ _ _ hb5)
  obtain ⟨x6, M7⟩ := b4
  exact Fr_eM hf hM
def tX7_baseline : List (Nat × Nat) := [(60, 20), (60, 21), (74, 99999), (75, 99999)]
set_option maxRecDepth 100000 in
theorem frX7_baseline {p1 : Int32} {M : zMem} {ro : Int32} {Mo : zMem}  (hf : fX7_baseline p1 M = some (ro, Mo)) : Fr tX7_baseline M Mo := by
  have hM : Fr tX7_baseline M M := Fr_rf
  unfold fX7_baseline at hf
  obtain ⟨r2, h1, hf⟩ := zb1_sp hf
  by_cases h13 : r2 = 0
  · have hf := zt h13 hf
    exact Fr_eiM hf hM
  · have hf := zf h13 hf
    obtain ⟨M4, h3, hf⟩ := zb1_sp hf
    have hM := Fr_tr hM (Fr_sub (by decide) (frX7_findBaseline  h3))
    by_cases h12 : (M4 60 21) = 0
    · have hf := zt h12 hf
      exact Fr_eiM hf hM
    · have hf := zf h12 hf
      obtain ⟨k6, k6e, hf⟩ := zj_sp hf
      have hj7 : ∀ (x5 : Int32), k6 x5 = some (ro, Mo) → Fr tX7_baseline M Mo := by
        intro x5 hf
        rw [k6e] at hf
        exact Fr_eiM hf hM
      clear k6e
      by_cases h11 : p1 = 0
      · have hf := zt h11 hf
        exact hj7 _ hf
      · have hf := zf h11 hf
        by_cases h10 : p1 = (1 : Int32)
        · have hf := zt h10 hf
          exact hj7 _ hf
        · have hf := zf h10 hf
          obtain ⟨r9, h8, hf⟩ := zb1_sp hf
          exact hj7 _ hf
def tX7_foot : List (Nat × Nat) := [(60, 20), (60, 21), (74, 99999), (75, 99999)]
set_option maxRecDepth 100000 in
theorem frX7_foot {p1 : Int32} {M : zMem} {ro : Int32} {Mo : zMem}  (hf : fX7_foot p1 M = some (ro, Mo)) : Fr tX7_foot M Mo := by
  have hM : Fr tX7_foot M M := Fr_rf
  unfold fX7_foot at hf
  obtain ⟨r2, h1, hf⟩ := zb1_sp hf
  by_cases h13 : r2 = 0
  · have hf := zt h13 hf
    exact Fr_eiM hf hM
  · have hf := zf h13 hf
    obtain ⟨M4, h3, hf⟩ := zb1_sp hf
    have hM := Fr_tr hM (Fr_sub (by decide) (frX7_findBaseline  h3))
    obtain ⟨k6, k6e, hf⟩ := zj_sp hf
    have hj7 : ∀ (x5 : Int32), k6 x5 = some (ro, Mo) → Fr tX7_foot M Mo := by
      intro x5 hf
      rw [k6e] at hf
      exact Fr_eiM hf hM
    clear k6e
    by_cases h12 : (M4 60 21) ≤ 0
    · have hf := zt h12 hf
      exact hj7 _ hf
    · have hf := zf h12 hf
      obtain ⟨r9, h8, hf⟩ := zb1_sp hf
      by_cases h11 : r9 = 0
      · have hf := zt h11 hf
        exact hj7 _ hf
      · have hf := zf h11 hf
        obtain ⟨h10, hf⟩ := zc_sp hf
        exact hj7 _ hf
def tX7_curl : List (Nat × Nat) := [(60, 20), (60, 21), (74, 99999), (75, 99999), (76, 99999)]
set_option maxRecDepth 100000 in
theorem frX7_curl {p1 : Int32} {M : zMem} {ro : Int32} {Mo : zMem}  (hf : fX7_curl p1 M = some (ro, Mo)) : Fr tX7_curl M Mo := by
  have hM : Fr tX7_curl M M := Fr_rf
  unfold fX7_curl at hf
  obtain ⟨r2, h1, hf⟩ := zb1_sp hf
  by_cases h10 : r2 = 0
  · have hf := zt h10 hf
    exact Fr_eiM hf hM
  · have hf := zf h10 hf
    obtain ⟨M4, h3, hf⟩ := zb1_sp hf
    have hM := Fr_tr hM (Fr_sub (by decide) (frX7_findBaseline  h3))
    by_cases h9 : (M4 60 21) = 0
    · have hf := zt h9 hf
      exact Fr_eiM hf hM
    · have hf := zf h9 hf
      obtain ⟨M6, h5, hf⟩ := zb1_sp hf
      have hM := Fr_tr hM (Fr_sub (by decide) (frX7_findCurls  h5))
      obtain ⟨r8, h7, hf⟩ := zb1_sp hf
      exact Fr_eiM hf hM
def tX7_level : List (Nat × Nat) := [(60, 10), (60, 20), (60, 21), (61, 99999), (68, 99999), (69, 99999), (74, 99999), (75, 99999), (76, 99999)]
set_option maxRecDepth 100000 in
theorem frX7_level {M : zMem} {ro : Int32} {Mo : zMem}  (hf : fX7_level M = some (ro, Mo)) : Fr tX7_level M Mo := by
  have hM : Fr tX7_level M M := Fr_rf
  unfold fX7_level at hf
  obtain ⟨M2, h1, hf⟩ := zb1_sp hf
  have hM := Fr_tr hM (Fr_sub (by decide) (frX7_findBaseline  h1))
  by_cases h8 : (M2 60 21) = 0
  · have hf := zt h8 hf
    exact Fr_eiM hf hM
  · have hf := zf h8 hf
    obtain ⟨M4, h3, hf⟩ := zb1_sp hf
    have hM := Fr_tr hM (Fr_sub (by decide) (frX7_findCurls  h3))
    obtain ⟨r6, M7, h5, hf⟩ := zb2_sp hf
    have hM := Fr_tr hM (Fr_sub (by decide) (frX7_moveAll  h5))
    exact Fr_eiM hf hM
def tX7_nearest : List (Nat × Nat) := [(60, 25)]
set_option maxRecDepth 100000 in
theorem frX7_nearest_L16 {p2 : Int32} {x2 : Int64} {x4 : Int64} {M5 : zMem}  {w} (hf : fX7_nearest_L16 p2 x2 x4 M5 = some w) : Fr tX7_nearest M5 (Sum.elim (fun a => a.2) (fun a => a.2) w) := by
  have hM : Fr tX7_nearest M5 M5 := Fr_rf
  unfold fX7_nearest_L16 at hf
  obtain ⟨h1017, hf⟩ := zc_sp hf
  by_cases h1020 : 0 ≤ (lg_cmp (x4 / ((p2).toInt64)) x2)
  · have hf := zt h1020 hf
    exact Fr_el (g := Sum.elim (fun a => a.2) (fun a => a.2)) hf hM
  · have hf := zf h1020 hf
    obtain ⟨x1018, -, hf⟩ := zn_sp hf
    obtain ⟨M1019, M1019e, hf⟩ := zn_sp hf
    have hM := M1019e ▸ (Fr_wF hM rfl)
    clear M1019e
    exact Fr_el (g := Sum.elim (fun a => a.2) (fun a => a.2)) hf hM
set_option maxRecDepth 100000 in
theorem frX7_nearest {p1 : Int32} {p2 : Int32} {p3 : Int32} {M : zMem} {F : Int64} {Mo : zMem} {Fo : Int64}  (hf : fX7_nearest p1 p2 p3 M F = some (Mo, Fo)) : Fr tX7_nearest M Mo := by
  have hM : Fr tX7_nearest M M := Fr_rf
  unfold fX7_nearest at hf
  obtain ⟨x1, -, hf⟩ := zn_sp hf
  obtain ⟨x2, -, hf⟩ := zn_sp hf
  obtain ⟨M3, M3e, hf⟩ := zn_sp hf
  have hM := M3e ▸ (Fr_wF hM rfl)
  clear M3e
  obtain ⟨b6, hb7, hf⟩ := zb1_sp hf
  have hM := Fr_tr hM (zlp_fr (mem := (fun a => a.2)) (memb := (fun a => a.2)) (T := tX7_nearest) (fun a w hw => frX7_nearest_L16  hw) _ _ _ hb7)
  obtain ⟨x8, M9⟩ := b6
  obtain ⟨h10, hf⟩ := zc_sp hf
  obtain ⟨F11, -, hf⟩ := zn_sp hf
  obtain ⟨h12, hf⟩ := zc_sp hf
  obtain ⟨x13, -, hf⟩ := zn_sp hf
  obtain ⟨F14, -, hf⟩ := zn_sp hf
  obtain ⟨k17, k17e, hf⟩ := zj_sp hf
  have hj18 : ∀ (M15 : zMem) (F16 : Int64), Fr tX7_nearest M M15 → k17 M15 F16 = some (Mo, Fo) → Fr tX7_nearest M Mo := by
    intro M15 F16 hM hf
    rw [k17e] at hf
    exact Fr_eMF hf hM
  clear k17e
  by_cases h21 : (lg_cmp F14 ((2 : Int64) * x2)) = 0
  · have hf := zt h21 hf
    obtain ⟨F19, -, hf⟩ := zn_sp hf
    obtain ⟨M20, M20e, hf⟩ := zn_sp hf
    have hM := M20e ▸ (Fr_wF hM rfl)
    clear M20e
    exact hj18 _ _ hM hf
  · have hf := zf h21 hf
    exact hj18 _ _ hM hf
def tX7_mean : List (Nat × Nat) := [(60, 20), (60, 21), (60, 25), (74, 99999), (75, 99999)]
set_option maxRecDepth 100000 in
theorem frX7_mean {M : zMem} {F : Int64} {ro : Int64} {Mo : zMem} {Fo : Int64}  (hf : fX7_mean M F = some (ro, Mo, Fo)) : Fr tX7_mean M Mo := by
  have hM : Fr tX7_mean M M := Fr_rf
  unfold fX7_mean at hf
  obtain ⟨M2, h1, hf⟩ := zb1_sp hf
  have hM := Fr_tr hM (Fr_sub (by decide) (frX7_findBaseline  h1))
  by_cases h13 : (M2 60 21) = 0
  · have hf := zt h13 hf
    exact Fr_elMF hf hM
  · have hf := zf h13 hf
    obtain ⟨r4, h3, hf⟩ := zb1_sp hf
    by_cases h12 : r4 = 0
    · have hf := zt h12 hf
      exact Fr_elMF hf hM
    · have hf := zf h12 hf
      obtain ⟨r6, h5, hf⟩ := zb1_sp hf
      obtain ⟨M8, F9, h7, hf⟩ := zb2_sp hf
      have hM := Fr_tr hM (Fr_sub (by decide) (frX7_nearest  h7))
      obtain ⟨r11, h10, hf⟩ := zb1_sp hf
      exact Fr_elMF hf hM
def tX7_rest : List (Nat × Nat) := [(60, 20), (60, 21), (60, 25), (74, 99999), (75, 99999)]
set_option maxRecDepth 100000 in
theorem frX7_rest_L65 {M12 : zMem} {F13 : Int64}  {w} (hf : fX7_rest_L65 M12 F13 = some w) : Fr tX7_rest M12 (Sum.elim (fun a => a.1) (fun a => a.1) w) := by
  have hM : Fr tX7_rest M12 M12 := Fr_rf
  unfold fX7_rest_L65 at hf
  by_cases h1068 : 0 ≤ (lg_cmp F13 (4503599627370496 : Int64))
  · have hf := zt h1068 hf
    exact Fr_el (g := Sum.elim (fun a => a.1) (fun a => a.1)) hf hM
  · have hf := zf h1068 hf
    obtain ⟨F1066, -, hf⟩ := zn_sp hf
    obtain ⟨M1067, M1067e, hf⟩ := zn_sp hf
    have hM := M1067e ▸ (Fr_wF hM rfl)
    clear M1067e
    exact Fr_el (g := Sum.elim (fun a => a.1) (fun a => a.1)) hf hM
set_option maxRecDepth 100000 in
theorem frX7_rest {M : zMem} {F : Int64} {ro : Int64} {Mo : zMem} {Fo : Int64}  (hf : fX7_rest M F = some (ro, Mo, Fo)) : Fr tX7_rest M Mo := by
  have hM : Fr tX7_rest M M := Fr_rf
  unfold fX7_rest at hf
  obtain ⟨M2, h1, hf⟩ := zb1_sp hf
  have hM := Fr_tr hM (Fr_sub (by decide) (frX7_findBaseline  h1))
  by_cases h22 : (M2 60 21) = 0
  · have hf := zt h22 hf
    exact Fr_elMF hf hM
  · have hf := zf h22 hf
    obtain ⟨r4, h3, hf⟩ := zb1_sp hf
    by_cases h21 : r4 = 0
    · have hf := zt h21 hf
      exact Fr_elMF hf hM
    · have hf := zf h21 hf
      obtain ⟨r6, h5, hf⟩ := zb1_sp hf
      obtain ⟨M8, F9, h7, hf⟩ := zb2_sp hf
      have hM := Fr_tr hM (Fr_sub (by decide) (frX7_nearest  h7))
      obtain ⟨h10, hf⟩ := zc_sp hf
      obtain ⟨F11, -, hf⟩ := zn_sp hf
      by_cases h20 : (lg_cmp F11 (0 : Int64)) = 0
      · have hf := zt h20 hf
        exact Fr_elMF hf hM
      · have hf := zf h20 hf
        obtain ⟨b14, hb15, hf⟩ := zb1_sp hf
        have hM := Fr_tr hM (zlp_fr (mem := (fun a => a.1)) (memb := (fun a => a.1)) (T := tX7_rest) (fun a w hw => frX7_rest_L65  hw) _ _ _ hb15)
        obtain ⟨M16, F17⟩ := b14
        obtain ⟨r19, h18, hf⟩ := zb1_sp hf
        exact Fr_elMF hf hM
def tX7_slope : List (Nat × Nat) := [(60, 20), (60, 21), (60, 25), (74, 99999), (75, 99999)]
set_option maxRecDepth 100000 in
theorem frX7_slope {M : zMem} {F : Int64} {ro : Int32} {Mo : zMem} {Fo : Int64}  (hf : fX7_slope M F = some (ro, Mo, Fo)) : Fr tX7_slope M Mo := by
  have hM : Fr tX7_slope M M := Fr_rf
  unfold fX7_slope at hf
  obtain ⟨M2, h1, hf⟩ := zb1_sp hf
  have hM := Fr_tr hM (Fr_sub (by decide) (frX7_findBaseline  h1))
  by_cases h25 : (2 : Int32) ≤ (M2 60 21)
  · have hf := zt h25 hf
    obtain ⟨x3, -, hf⟩ := zn_sp hf
    obtain ⟨b8, hb9, hf⟩ := zb1_sp hf
    obtain ⟨x10, x11, x12, x13⟩ := b8
    obtain ⟨r15, h14, hf⟩ := zb1_sp hf
    obtain ⟨x16, -, hf⟩ := zn_sp hf
    obtain ⟨x17, -, hf⟩ := zn_sp hf
    by_cases h24 : x16 = 0
    · have hf := zt h24 hf
      exact Fr_eiMF hf hM
    · have hf := zf h24 hf
      obtain ⟨M19, F20, h18, hf⟩ := zb2_sp hf
      have hM := Fr_tr hM (Fr_sub (by decide) (frX7_nearest  h18))
      obtain ⟨r22, h21, hf⟩ := zb1_sp hf
      obtain ⟨x23, -, hf⟩ := zn_sp hf
      exact Fr_eiMF hf hM
  · have hf := zf h25 hf
    exact Fr_eiMF hf hM
def tX7_many : List (Nat × Nat) := [(60, 13), (60, 18), (70, 99999), (71, 99999), (72, 99999), (73, 99999)]
set_option maxRecDepth 100000 in
theorem frX7_many {p1 : Int32} {M : zMem} {ro : Int32} {Mo : zMem}  (hf : fX7_many p1 M = some (ro, Mo)) : Fr tX7_many M Mo := by
  have hM : Fr tX7_many M M := Fr_rf
  unfold fX7_many at hf
  by_cases h1 : p1 = (0 : Int32)
  · have hf := zt h1 hf
    exact Fr_eiM hf hM
  · have hf := zf h1 hf
    by_cases h2 : p1 = (1 : Int32)
    · have hf := zt h2 hf
      obtain ⟨r4, h3, hf⟩ := zb1_sp hf
      exact Fr_eiM hf hM
    · have hf := zf h2 hf
      by_cases h5 : p1 = (2 : Int32)
      · have hf := zt h5 hf
        obtain ⟨M7, h6, hf⟩ := zb1_sp hf
        have hM := Fr_tr hM (Fr_sub (by decide) (frX7_findRuns  h6))
        exact Fr_eiM hf hM
      · have hf := zf h5 hf
        by_cases h8 : p1 = (3 : Int32)
        · have hf := zt h8 hf
          obtain ⟨M10, h9, hf⟩ := zb1_sp hf
          have hM := Fr_tr hM (Fr_sub (by decide) (frX7_findStrokes  h9))
          exact Fr_eiM hf hM
        · have hf := zf h8 hf
          by_cases h11 : p1 = (4 : Int32)
          · have hf := zt h11 hf
            obtain ⟨r13, h12, hf⟩ := zb1_sp hf
            exact Fr_eiM hf hM
          · have hf := zf h11 hf
            by_cases h14 : p1 = (5 : Int32)
            · have hf := zt h14 hf
              exact Fr_eiM hf hM
            · have hf := zf h14 hf
              by_cases h15 : p1 = (6 : Int32)
              · have hf := zt h15 hf
                obtain ⟨b18, hb19, hf⟩ := zb1_sp hf
                obtain ⟨x20, x21⟩ := b18
                exact Fr_eiM hf hM
              · have hf := zf h15 hf
                exact Fr_eiM hf hM
