/-! numbers: Int32 as the image of an Int -/
def iI (z : Int) : Int32 := Int32.ofInt z
theorem iI_add (a b : Int) : iI a + iI b = iI (a + b) := (Int32.ofInt_add a b).symm
theorem iI_sub (a b : Int) : iI a - iI b = iI (a - b) := (Int32.ofInt_sub a b).symm
theorem iI_mul (a b : Int) : iI a * iI b = iI (a * b) := (Int32.ofInt_mul a b).symm
theorem iI_neg (a : Int) : -iI a = iI (-a) := (Int32.ofInt_neg a).symm
theorem iI_ex (x : Int32) : ∃ z : Int, -2147483648 ≤ z ∧ z ≤ 2147483647 ∧ x = iI z :=
  ⟨x.toInt, x.le_toInt, by have := x.toInt_lt; omega, (Int32.ofInt_toInt x).symm⟩
theorem iI_toInt {z : Int} (h1 : -2147483648 ≤ z) (h2 : z ≤ 2147483647) : (iI z).toInt = z := Int32.toInt_ofInt_of_le h1 (by omega)
theorem iI_lt {a b : Int} (h1 : -2147483648 ≤ a) (h2 : a ≤ 2147483647) (h3 : -2147483648 ≤ b) (h4 : b ≤ 2147483647) : iI a < iI b ↔ a < b := by
  rw [Int32.lt_iff_toInt_lt, iI_toInt h1 h2, iI_toInt h3 h4]
theorem iI_le {a b : Int} (h1 : -2147483648 ≤ a) (h2 : a ≤ 2147483647) (h3 : -2147483648 ≤ b) (h4 : b ≤ 2147483647) : iI a ≤ iI b ↔ a ≤ b := by
  rw [Int32.le_iff_toInt_le, iI_toInt h1 h2, iI_toInt h3 h4]
theorem iI_eq {a b : Int} (h1 : -2147483648 ≤ a) (h2 : a ≤ 2147483647) (h3 : -2147483648 ≤ b) (h4 : b ≤ 2147483647) : iI a = iI b ↔ a = b := by
  rw [← Int32.toInt_inj, iI_toInt h1 h2, iI_toInt h3 h4]
theorem fle_n {α : Sort _} {a b : Int} {x y : α} (h : b < a) (r1 : -2147483648 ≤ b) (r2 : a ≤ 2147483647) : (if iI a ≤ iI b then x else y) = y := if_neg (by rw [iI_le (by omega) (by omega) (by omega) (by omega)]; omega)
theorem fle_p {α : Sort _} {a b : Int} {x y : α} (h : a ≤ b) (r1 : -2147483648 ≤ a) (r2 : b ≤ 2147483647) : (if iI a ≤ iI b then x else y) = x := if_pos (by rw [iI_le (by omega) (by omega) (by omega) (by omega)]; omega)
theorem flt_n {α : Sort _} {a b : Int} {x y : α} (h : b ≤ a) (r1 : -2147483648 ≤ b) (r2 : a ≤ 2147483647) : (if iI a < iI b then x else y) = y := if_neg (by rw [iI_lt (by omega) (by omega) (by omega) (by omega)]; omega)
theorem flt_p {α : Sort _} {a b : Int} {x y : α} (h : a < b) (r1 : -2147483648 ≤ a) (r2 : b ≤ 2147483647) : (if iI a < iI b then x else y) = x := if_pos (by rw [iI_lt (by omega) (by omega) (by omega) (by omega)]; omega)
theorem feq_n {α : Sort _} {a b : Int} {x y : α} (h : a ≠ b) (r1 : -2147483648 ≤ a ∧ a ≤ 2147483647) (r2 : -2147483648 ≤ b ∧ b ≤ 2147483647) : (if iI a = iI b then x else y) = y := if_neg (by rw [iI_eq (by omega) (by omega) (by omega) (by omega)]; omega)
theorem feq_p {α : Sort _} {a b : Int} {x y : α} (h : a = b) : (if iI a = iI b then x else y) = x := if_pos (by rw [h])
theorem iI_nat {z : Int} (h1 : 0 ≤ z) (h2 : z ≤ 2147483647) : (iI z).toNatClampNeg = z.toNat := Int32.toNatClampNeg_ofInt_of_le (by omega) (by omega)
theorem iI_natN {n : Nat} (h2 : n ≤ 2147483647) : (iI (n : Int)).toNatClampNeg = n := by rw [iI_nat (by omega) (by omega)]; omega
theorem nI_iI (n : Nat) : nI n = iI n := (Int32.ofInt_eq_ofNat).symm
theorem iI_in {z : Int} {n : Nat} (h1 : 0 ≤ z) (h2 : z < n) (h3 : n ≤ 1000000) : zin (iI z) n = true := by
  unfold zin
  apply decide_eq_true
  rintro (h | h)
  · rw [show (0 : Int32) = iI 0 from rfl, iI_lt (by omega) (by omega) (by omega) (by omega)] at h; omega
  · rw [iI_nat h1 (by omega)] at h; omega
theorem zc_t {α : Type} {b : Bool} {k : Option α} (h : b = true) : zc b k = k := by unfold zc; rw [if_pos h]
theorem zc_in {α : Type} {z : Int} {n : Nat} {k : Option α} (h1 : 0 ≤ z) (h2 : z < n) (h3 : n ≤ 1000000) : zc (zin (iI z) n) k = k := zc_t (iI_in h1 h2 h3)
theorem zn_eq {α β : Type} (e : α) (k : α → β) : zn e k = k e := rfl
theorem zj_eq {κ α : Type} (K : κ) (E : κ → Option α) : zj K E = E K := rfl
theorem zb1_eq {α β : Type} (a : α) (k : α → Option β) : zb1 (some a) k = k a := rfl
theorem zb2_eq {α β γ : Type} (a : α) (b : β) (k : α → β → Option γ) : zb2 (some (a, b)) k = k a b := rfl
theorem zb3_eq {α β γ δ : Type} (a : α) (b : β) (c : γ) (k : α → β → γ → Option δ) : zb3 (some (a, b, c)) k = k a b c := rfl
theorem zbr_l {α ρ δ : Type} (a : α) (k : α → Option δ) (kr : ρ → Option δ) : zbr (some (.inl a)) k kr = k a := rfl
theorem zbr_r {α ρ δ : Type} (a : ρ) (k : α → Option δ) (kr : ρ → Option δ) : zbr (some (.inr a)) k kr = kr a := rfl
theorem zwr_o {M : zMem} {c k c' k' : Nat} {x : Int32} (h : c' ≠ c) : zwr M c k x c' k' = M c' k' := by unfold zwr; rw [if_neg h]
theorem zwr_O {M : zMem} {c k c' : Nat} {x : Int32} (h : c' ≠ c) : zwr M c k x c' = M c' := by unfold zwr; rw [if_neg h]
theorem zwr_s {M : zMem} {c k : Nat} {x : Int32} : zwr M c k x c k = x := by unfold zwr upd; rw [if_pos rfl, if_pos rfl]
theorem zwr_k {M : zMem} {c k k' : Nat} {x : Int32} (h : k' ≠ k) : zwr M c k x c k' = M c k' := by unfold zwr upd; rw [if_pos rfl, if_neg h]
theorem zwa_o {M : zMem} {c c' k' : Nat} {f : Nat → Int32} (h : c' ≠ c) : zwa M c f c' k' = M c' k' := by unfold zwa; rw [if_neg h]
theorem zwa_O {M : zMem} {c c' : Nat} {f : Nat → Int32} (h : c' ≠ c) : zwa M c f c' = M c' := by unfold zwa; rw [if_neg h]
theorem zwa_s {M : zMem} {c k : Nat} {f : Nat → Int32} : zwa M c f c k = f k := by unfold zwa; rw [if_pos rfl]
theorem zwa_S {M : zMem} {c : Nat} {f : Nat → Int32} : zwa M c f c = f := by unfold zwa; rw [if_pos rfl]
theorem zwr_zwr (M : zMem) (c k : Nat) (x y : Int32) : zwr (zwr M c k x) c k y = zwr M c k y := by
  funext c' k'
  unfold zwr upd
  split
  · dsimp only
    split
    · rfl
    · rename_i hk
      rw [if_pos rfl, if_neg hk]
  · rfl
theorem zwr_zwa (M : zMem) (c k : Nat) (x : Int32) : zwr M c k x = zwa M c (upd (M c) k x) := rfl
theorem zwa_zwa (M : zMem) (c : Nat) (f g : Nat → Int32) : zwa (zwa M c f) c g = zwa M c g := by
  funext c'; unfold zwa; split <;> rfl
theorem zwa_zwr (M : zMem) (c k : Nat) (f : Nat → Int32) (x : Int32) : zwr (zwa M c f) c k x = zwa M c (upd f k x) := by
  rw [zwr_zwa, zwa_S, zwa_zwa]
theorem zwa_id (M : zMem) (c : Nat) : zwa M c (M c) = M := by
  funext c'; unfold zwa; split
  · subst_vars; rfl
  · rfl
theorem zwa_ext {M : zMem} {c : Nat} {f g : Nat → Int32} (h : ∀ k, f k = g k) : zwa M c f = zwa M c g := by rw [funext h]
theorem upd_s {f : Nat → Int32} {k : Nat} {x : Int32} : upd f k x k = x := if_pos rfl
theorem upd_o {f : Nat → Int32} {k k' : Nat} {x : Int32} (h : k' ≠ k) : upd f k x k' = f k' := if_neg h
/-! loops -/
theorem zlp_go {α β : Type} {body : α → Option (α ⊕ β)} {a a' : α} {n : Nat} (h : body a = some (.inl a')) : zlp body (n + 1) a = zlp body n a' := by
  show (match body a with | none => none | some (.inl a') => zlp body n a' | some (.inr b) => some b) = _
  rw [h]
theorem zlp_end {α β : Type} {body : α → Option (α ⊕ β)} {a : α} {b : β} {n : Nat} (h : body a = some (.inr b)) : zlp body (n + 1) a = some b := by
  show (match body a with | none => none | some (.inl a') => zlp body n a' | some (.inr b) => some b) = _
  rw [h]
/-- a loop by an invariant and a number of rounds -/
theorem zlp_run {α β : Type} {body : α → Option (α ⊕ β)} (I : Nat → α → Prop) (Q : β → Prop) (n : Nat)
    (hs : ∀ i a, i < n → I i a → (∃ a', body a = some (.inl a') ∧ I (i + 1) a') ∨ ∃ b, body a = some (.inr b) ∧ Q b)
    (hx : ∀ a, I n a → ∃ b, body a = some (.inr b) ∧ Q b) : ∀ (k i : Nat) (a : α) (fu : Nat), i + k = n → k < fu → I i a → ∃ b, zlp body fu a = some b ∧ Q b := by
  intro k
  induction k with
  | zero =>
    intro i a fu hi hf h
    obtain ⟨m, rfl⟩ : ∃ m, fu = m + 1 := ⟨fu - 1, by omega⟩
    obtain ⟨b, h1, h2⟩ := hx a (by have : i = n := by omega
                                   rw [← this]; exact h)
    exact ⟨b, zlp_end h1, h2⟩
  | succ k ih =>
    intro i a fu hi hf h
    obtain ⟨m, rfl⟩ : ∃ m, fu = m + 1 := ⟨fu - 1, by omega⟩
    rcases hs i a (by omega) h with ⟨a', h1, h2⟩ | ⟨b, h1, h2⟩
    · obtain ⟨b, h3, h4⟩ := ih (i + 1) a' m (by omega) (by omega) h2
      exact ⟨b, by rw [zlp_go h1]; exact h3, h4⟩
    · exact ⟨b, zlp_end h1, h2⟩
theorem zlp_inv {α β : Type} {body : α → Option (α ⊕ β)} (I : Nat → α → Prop) (Q : β → Prop) (n : Nat) (hn : n < 999999) {a : α} (h0 : I 0 a)
    (hs : ∀ i a, i < n → I i a → (∃ a', body a = some (.inl a') ∧ I (i + 1) a') ∨ ∃ b, body a = some (.inr b) ∧ Q b)
    (hx : ∀ a, I n a → ∃ b, body a = some (.inr b) ∧ Q b) : ∃ b, zlp body zfu a = some b ∧ Q b :=
  zlp_run I Q n hs hx n 0 a zfu (by omega) (by unfold zfu; omega) h0
/-- a loop whose states are known -/
theorem zlp_seq {α β : Type} {body : α → Option (α ⊕ β)} (S : Nat → α) (b : β) (n : Nat) (hn : n < 999999) {a : α} (h0 : a = S 0)
    (hs : ∀ i, i < n → body (S i) = some (.inl (S (i + 1)))) (hx : body (S n) = some (.inr b)) : zlp body zfu a = some b := by
  obtain ⟨b', h1, h2⟩ := zlp_inv (body := body) (fun i a => a = S i) (fun b' => b' = b) n hn (a := a) h0
    (fun i a hi h => Or.inl ⟨_, by rw [h]; exact hs i hi, rfl⟩) (fun a h => ⟨b, by rw [h]; exact hx, rfl⟩)
  rw [h1, h2]
/-- Arrays.fill -/
theorem f_fill {c n : Nat} {v : Int32} {M : zMem} (hn : n ≤ 1000) : fJ7_fill_53178 c n v M = some (zwa M c (fun j => if j < n then v else M c j)) := by
  unfold fJ7_fill_53178
  rw [zn_eq]
  have h := zlp_seq (body := zu2 (fJ7_fill_53178_L5 c n v (Int32.ofNat n))) (S := fun i => (iI (i : Int), zwa M c (fun j => if j < i then v else M c j))) (b := (iI (n : Int), zwa M c (fun j => if j < n then v else M c j))) n (by omega) (a := ((0 : Int32), M))
    (by
      show _ = (iI 0, zwa M c (fun j => if j < 0 then v else M c j))
      rw [zwa_ext (g := M c) (fun j => if_neg (by omega)), zwa_id]; rfl)
    (fun i hi => by
      show fJ7_fill_53178_L5 c n v (Int32.ofNat n) (iI (i : Int)) _ = _
      unfold fJ7_fill_53178_L5
      rw [show Int32.ofNat n = iI (n : Int) from nI_iI n, if_neg (by rw [iI_le (by omega) (by omega) (by omega) (by omega)]; omega), zc_in (by omega) (by omega) (by omega), zn_eq, iI_natN (by omega), zwa_zwr, show (1 : Int32) = iI 1 from rfl, iI_add]
      congr 3
      apply zwa_ext
      intro k
      unfold upd
      by_cases h1 : k = i
      · rw [if_pos h1, if_pos (by omega)]
      · rw [if_neg h1]
        dsimp only
        by_cases h2 : k < i
        · rw [if_pos h2, if_pos (by omega)]
        · rw [if_neg h2, if_neg (by omega)])
    (by
      show fJ7_fill_53178_L5 c n v (Int32.ofNat n) (iI (n : Int)) _ = _
      unfold fJ7_fill_53178_L5
      rw [show Int32.ofNat n = iI (n : Int) from nI_iI n, if_pos (by rw [iI_le (by omega) (by omega) (by omega) (by omega)]; omega)])
  rw [h]
  rfl
theorem li_0 : (0 : Int32) = iI 0 := rfl
theorem li_1 : (1 : Int32) = iI 1 := rfl
theorem li_2 : (2 : Int32) = iI 2 := rfl
theorem li_3 : (3 : Int32) = iI 3 := rfl
theorem li_4 : (4 : Int32) = iI 4 := rfl
theorem li_5 : (5 : Int32) = iI 5 := rfl
theorem li_6 : (6 : Int32) = iI 6 := rfl
theorem li_7 : (7 : Int32) = iI 7 := rfl
theorem li_8 : (8 : Int32) = iI 8 := rfl
theorem li_9 : (9 : Int32) = iI 9 := rfl
theorem li_10 : (10 : Int32) = iI 10 := rfl
theorem li_11 : (11 : Int32) = iI 11 := rfl
theorem li_12 : (12 : Int32) = iI 12 := rfl
theorem li_15 : (15 : Int32) = iI 15 := rfl
theorem li_16 : (16 : Int32) = iI 16 := rfl
theorem li_18 : (18 : Int32) = iI 18 := rfl
theorem li_22 : (22 : Int32) = iI 22 := rfl
theorem li_23 : (23 : Int32) = iI 23 := rfl
theorem li_24 : (24 : Int32) = iI 24 := rfl
theorem li_28 : (28 : Int32) = iI 28 := rfl
theorem li_31 : (31 : Int32) = iI 31 := rfl
theorem li_32 : (32 : Int32) = iI 32 := rfl
theorem li_33 : (33 : Int32) = iI 33 := rfl
theorem li_40 : (40 : Int32) = iI 40 := rfl
theorem li_52 : (52 : Int32) = iI 52 := rfl
theorem li_53 : (53 : Int32) = iI 53 := rfl
theorem li_63 : (63 : Int32) = iI 63 := rfl
theorem li_64 : (64 : Int32) = iI 64 := rfl
theorem li_85 : (85 : Int32) = iI 85 := rfl
theorem li_86 : (86 : Int32) = iI 86 := rfl
theorem li_96 : (96 : Int32) = iI 96 := rfl
theorem li_99 : (99 : Int32) = iI 99 := rfl
theorem li_100 : (100 : Int32) = iI 100 := rfl
theorem li_127 : (127 : Int32) = iI 127 := rfl
theorem li_128 : (128 : Int32) = iI 128 := rfl
theorem li_200 : (200 : Int32) = iI 200 := rfl
theorem li_201 : (201 : Int32) = iI 201 := rfl
theorem li_384 : (384 : Int32) = iI 384 := rfl
theorem li_768 : (768 : Int32) = iI 768 := rfl
theorem li_1023 : (1023 : Int32) = iI 1023 := rfl
theorem li_5376 : (5376 : Int32) = iI 5376 := rfl
theorem li_6144 : (6144 : Int32) = iI 6144 := rfl
