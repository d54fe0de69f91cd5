/-! Integer.bitCount counts bits -/
theorem pb_and (a X m m' : Nat) (ha : a < 256) (hm : m < 256) : (a + 256 * X) &&& (m + 256 * m') = (a &&& m) + 256 * (X &&& m') := by
  have h1 := Nat.mod_add_div ((a + 256 * X) &&& (m + 256 * m')) 256
  have e : (256 : Nat) = 2 ^ 8 := rfl
  have h2 : ((a + 256 * X) &&& (m + 256 * m')) % 256 = a &&& m := by
    rw [e, Nat.and_mod_two_pow, ← e]
    congr 1 <;> omega
  have h3 : ((a + 256 * X) &&& (m + 256 * m')) / 256 = X &&& m' := by
    rw [e, Nat.and_div_two_pow, ← e]
    congr 1 <;> omega
  omega
theorem pb_le (a m : Nat) : a &&& m ≤ a := Nat.and_le_left
theorem pb_lo (u v m k : Nat) (h : u % 2 ^ k = v % 2 ^ k) (hm : m < 2 ^ k) : u &&& m = v &&& m := by
  have h1 : (u &&& m) % 2 ^ k = (v &&& m) % 2 ^ k := by rw [Nat.and_mod_two_pow, Nat.and_mod_two_pow, h]
  have l1 : u &&& m < 2 ^ k := Nat.lt_of_le_of_lt Nat.and_le_right hm
  have l2 : v &&& m < 2 ^ k := Nat.lt_of_le_of_lt Nat.and_le_right hm
  rwa [Nat.mod_eq_of_lt l1, Nat.mod_eq_of_lt l2] at h1
def pb1 (m X : Nat) : Nat := X - ((X / 2) &&& m)
def pb2 (m X : Nat) : Nat := (X &&& m) + ((X / 4) &&& m)
def pb3 (m X : Nat) : Nat := (X + X / 16) &&& m
theorem pb1_peel (a X m' : Nat) (ha : a < 256) : pb1 (85 + 256 * m') (a + 256 * X) = pb1 85 a + 256 * pb1 m' X := by
  unfold pb1
  have e : (a + 256 * X) / 2 = (a / 2 + 128 * (X % 2)) + 256 * (X / 2) := by omega
  rw [e, pb_and _ _ _ _ (by omega) (by omega), pb_lo (a / 2 + 128 * (X % 2)) (a / 2) 85 7 (by omega) (by omega)]
  have h1 := pb_le (a / 2) 85
  have h2 := pb_le (X / 2) m'
  omega
theorem pb2_peel (a X m' : Nat) (ha : a < 256) : pb2 (51 + 256 * m') (a + 256 * X) = pb2 51 a + 256 * pb2 m' X := by
  unfold pb2
  have e : (a + 256 * X) / 4 = (a / 4 + 64 * (X % 4)) + 256 * (X / 4) := by omega
  rw [e, pb_and a X _ _ (by omega) (by omega), pb_and _ _ _ _ (by omega) (by omega), pb_lo (a / 4 + 64 * (X % 4)) (a / 4) 51 6 (by omega) (by omega)]
  omega
theorem pb3_peel (a X m' : Nat) (ha : a ≤ 68) (hX : X % 16 ≤ 4) : pb3 (15 + 256 * m') (a + 256 * X) = pb3 15 a + 256 * pb3 m' X := by
  unfold pb3
  have e : a + 256 * X + (a + 256 * X) / 16 = (a + a / 16 + 16 * (X % 16)) + 256 * (X + X / 16) := by omega
  rw [e, pb_and _ _ _ _ (by omega) (by omega), pb_lo (a + a / 16 + 16 * (X % 16)) (a + a / 16) 15 4 (by omega) (by omega)]
theorem pb_byte : ∀ a, a < 256 → pb1 85 a < 256 ∧ pb2 51 (pb1 85 a) ≤ 68 ∧ pb2 51 (pb1 85 a) % 16 ≤ 4 ∧ pb3 15 (pb2 51 (pb1 85 a)) = fb_ct (fun i => a.testBit i) 8 := by decide +kernel
theorem pb_ct8 (p : Nat → Bool) : fb_ct p 8 ≤ 8 := fb_ct_le p 8
theorem pb_sum (a b c d : Nat) (ha : a < 256) (hb : b < 256) (hc : c < 256) (hd : d < 256) :
    pb3 252645135 (pb2 858993459 (pb1 1431655765 (a + 256 * (b + 256 * (c + 256 * d))))) = fb_ct (fun i => a.testBit i) 8 + 256 * (fb_ct (fun i => b.testBit i) 8 + 256 * (fb_ct (fun i => c.testBit i) 8 + 256 * fb_ct (fun i => d.testBit i) 8)) := by
  obtain ⟨a1, a2, a3, a4⟩ := pb_byte a ha
  obtain ⟨b1, b2, b3, b4⟩ := pb_byte b hb
  obtain ⟨c1, c2, c3, c4⟩ := pb_byte c hc
  obtain ⟨d1, d2, d3, d4⟩ := pb_byte d hd
  rw [show (1431655765 : Nat) = 85 + 256 * (85 + 256 * (85 + 256 * 85)) from rfl, pb1_peel a _ _ ha, pb1_peel b _ _ hb, pb1_peel c _ _ hc,
    show (858993459 : Nat) = 51 + 256 * (51 + 256 * (51 + 256 * 51)) from rfl, pb2_peel _ _ _ a1, pb2_peel _ _ _ b1, pb2_peel _ _ _ c1,
    show (252645135 : Nat) = 15 + 256 * (15 + 256 * (15 + 256 * 15)) from rfl, pb3_peel _ _ _ a2 (by omega), pb3_peel _ _ _ b2 (by omega), pb3_peel _ _ _ c2 (by omega), a4, b4, c4, d4]
theorem pb_ct32 (X : Nat) : fb_ct (fun i => X.testBit i) 32 = fb_ct (fun i => (X % 256).testBit i) 8 + (fb_ct (fun i => (X / 256 % 256).testBit i) 8 + (fb_ct (fun i => (X / 65536 % 256).testBit i) 8 + fb_ct (fun i => (X / 16777216 % 256).testBit i) 8)) := by
  have key : ∀ (Y k i : Nat), i < 8 → (Y / 2 ^ k % 256).testBit i = Y.testBit (k + i) := by
    intro Y k i hi
    rw [show (256 : Nat) = 2 ^ 8 from rfl, Nat.testBit_mod_two_pow, Nat.testBit_div_two_pow]
    simp [hi, Nat.add_comm]
  rw [show (32 : Nat) = 8 + (8 + (8 + 8)) from rfl, fb_ct_split, fb_ct_split, fb_ct_split]
  rw [fb_ct_cong (p := fun i => (X % 256).testBit i) (q := fun i => X.testBit i) (fun i hi => by have := key X 0 i hi; simpa using this),
    fb_ct_cong (p := fun i => (X / 256 % 256).testBit i) (q := fun i => X.testBit (8 + i)) (fun i hi => key X 8 i hi),
    fb_ct_cong (p := fun i => (X / 65536 % 256).testBit i) (q := fun i => X.testBit (8 + (8 + i))) (fun i hi => by rw [show (65536 : Nat) = 2 ^ 16 from rfl, key X 16 i hi]; congr 1; omega),
    fb_ct_cong (p := fun i => (X / 16777216 % 256).testBit i) (q := fun i => X.testBit (8 + (8 + (8 + i)))) (fun i hi => by rw [show (16777216 : Nat) = 2 ^ 24 from rfl, key X 24 i hi]; congr 1; omega)]
theorem nI_all (x : Int32) : x = nI x.toBitVec.toNat := Int32.toBitVec_inj.mp (by show x.toBitVec = BitVec.ofNat 32 _; simp)
theorem pb_ush (X : Nat) (h : X < 2 ^ 32) (s : Int32) (k : Nat) (hs : ((s.toUInt32 &&& Int32.toUInt32 31).toBitVec % 32).toNat = k) : zush (nI X) s = nI (X / 2 ^ k) := pk_ushrN h s k hs
theorem f_bitCount (x : Int32) : fJ6_bitCount_0f7a4 x = some (nI (fb_ct (bt x) 32)) := by
  have hX : x.toBitVec.toNat < 2 ^ 32 := x.toBitVec.isLt
  have hb : fb_ct (bt x) 32 = fb_ct (fun i => x.toBitVec.toNat.testBit i) 32 := rfl
  rw [hb, pb_ct32]
  rw [nI_all x]
  have hn : (nI x.toBitVec.toNat).toBitVec.toNat = x.toBitVec.toNat := by rw [← nI_all]
  rw [hn]
  generalize x.toBitVec.toNat = X at hX ⊢
  obtain ⟨a, ea⟩ : ∃ a, a = X % 256 := ⟨_, rfl⟩
  obtain ⟨b, eb⟩ : ∃ b, b = X / 256 % 256 := ⟨_, rfl⟩
  obtain ⟨c, ec⟩ : ∃ c, c = X / 65536 % 256 := ⟨_, rfl⟩
  obtain ⟨d, ed⟩ : ∃ d, d = X / 16777216 % 256 := ⟨_, rfl⟩
  have e : X = a + 256 * (b + 256 * (c + 256 * d)) := by omega
  rw [← ea, ← eb, ← ec, ← ed]
  have hs := pb_sum a b c d (by omega) (by omega) (by omega) (by omega)
  rw [← e] at hs
  have pa := pb_ct8 (fun i => a.testBit i)
  have pb := pb_ct8 (fun i => b.testBit i)
  have pc := pb_ct8 (fun i => c.testBit i)
  have pd := pb_ct8 (fun i => d.testBit i)
  generalize fb_ct (fun i => a.testBit i) 8 = ka at hs pa ⊢
  generalize fb_ct (fun i => b.testBit i) 8 = kb at hs pb ⊢
  generalize fb_ct (fun i => c.testBit i) 8 = kc at hs pc ⊢
  generalize fb_ct (fun i => d.testBit i) 8 = kd at hs pd ⊢
  have l1 : (X / 2) &&& 1431655765 ≤ X := Nat.le_trans Nat.and_le_left (by omega)
  have b1 : pb1 1431655765 X < 2 ^ 32 := by unfold pb1; omega
  have b2 : pb2 858993459 (pb1 1431655765 X) < 2 ^ 31 := by
    unfold pb2
    have h1 : pb1 1431655765 X &&& 858993459 ≤ 858993459 := Nat.and_le_right
    have h2 : pb1 1431655765 X / 4 &&& 858993459 ≤ 858993459 := Nat.and_le_right
    omega
  unfold fJ6_bitCount_0f7a4
  rw [zn_eq, pb_ush X hX 1 1 (by decide), show (1431655765 : Int32) = nI 1431655765 from rfl, nx_and, pk_sub (by simpa using l1)]
  rw [show X - (X / 2 ^ 1 &&& 1431655765) = pb1 1431655765 X from rfl]
  rw [zn_eq, pb_ush _ b1 2 2 (by decide), show (858993459 : Int32) = nI 858993459 from rfl, nx_and, nx_and, nI_add]
  rw [show (pb1 1431655765 X &&& 858993459) + (pb1 1431655765 X / 2 ^ 2 &&& 858993459) = pb2 858993459 (pb1 1431655765 X) from rfl]
  rw [zn_eq, pb_ush _ (by omega) 4 4 (by decide), nI_add, show (252645135 : Int32) = nI 252645135 from rfl, nx_and]
  rw [show (pb2 858993459 (pb1 1431655765 X) + pb2 858993459 (pb1 1431655765 X) / 2 ^ 4 &&& 252645135) = pb3 252645135 (pb2 858993459 (pb1 1431655765 X)) from rfl, hs]
  rw [zn_eq, pb_ush _ (by omega) 8 8 (by decide), nI_add, zn_eq, pb_ush _ (by omega) 16 16 (by decide), nI_add, show (63 : Int32) = nI 63 from rfl, nx_and, show (63 : Nat) = 2 ^ 6 - 1 from rfl, Nat.and_two_pow_sub_one_eq_mod]
  have e1 : (ka + 256 * (kb + 256 * (kc + 256 * kd))) / 2 ^ 8 = kb + 256 * (kc + 256 * kd) := by clear hs e; omega
  rw [e1]
  have e2 : (ka + 256 * (kb + 256 * (kc + 256 * kd)) + (kb + 256 * (kc + 256 * kd))) / 2 ^ 16 = kc + kd + 256 * kd := by clear hs e; omega
  rw [e2]
  congr 2
  clear hs e b1 b2 l1 ea eb ec ed hX e1 e2
  omega
