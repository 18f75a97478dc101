/-! what a script's ints are -/
def e8 (s : Int32) : UInt64 := FP.dmul (FP.i2d s) 4593671619917905920
theorem e8_n {k : Nat} : e8 (nI k) = oct k := rfl
theorem e8_f (s : Int32) : fF (e8 s) := by
  have hp := f1_pos
  have h8 : fz 4593671619917905920 * 8 = f1 := by decide +kernel
  have hs1 : -2147483648 ≤ s.toInt := Int32.le_toInt s
  have hs2 : s.toInt < 2147483648 := Int32.toInt_lt s
  have el : (-2147483648 : Int32).toInt = -2147483648 := by decide
  have eh : (2147483647 : Int32).toInt = 2147483647 := by decide
  have hz : 0 ≤ fz 4593671619917905920 := by omega
  have hz2 : fz 4593671619917905920 ≤ f1 := by omega
  refine f_fin (f_mul_n (fF_i s) fF_8th) (fF_i (-2147483648)) (fF_i 2147483647) ?_ ?_
  · refine f_mul_ge (fF_i s) fF_8th (fF_i _).n ?_
    rw [fz_i, fz_i, el]
    have a1 : -2147483648 * f1 ≤ s.toInt * f1 := Int.mul_le_mul_of_nonneg_right hs1 (by omega)
    have a2 : -2147483648 * f1 * fz 4593671619917905920 ≤ s.toInt * f1 * fz 4593671619917905920 := Int.mul_le_mul_of_nonneg_right a1 hz
    have a3 : -2147483648 * f1 * f1 ≤ -2147483648 * f1 * fz 4593671619917905920 := by
      have := Int.mul_le_mul_of_nonneg_left hz2 (show 0 ≤ 2147483648 * f1 by omega)
      rw [Int.neg_mul, Int.neg_mul, Int.neg_mul]
      omega
    omega
  · refine f_mul_le (fF_i s) fF_8th (fF_i _).n ?_
    rw [fz_i, fz_i, eh]
    have a1 : s.toInt * f1 ≤ 2147483647 * f1 := Int.mul_le_mul_of_nonneg_right (by omega) (by omega)
    have a2 : s.toInt * f1 * fz 4593671619917905920 ≤ 2147483647 * f1 * fz 4593671619917905920 := Int.mul_le_mul_of_nonneg_right a1 hz
    have a3 : 2147483647 * f1 * fz 4593671619917905920 ≤ 2147483647 * f1 * f1 := Int.mul_le_mul_of_nonneg_left hz2 (by omega)
    omega
theorem e8_k {s : Int32} {m : Nat} (hm : m < 999) (h0 : 0 < fz (e8 s)) (h : fz (e8 s) * 8 ≤ (m : Int) * f1) : ∃ k : Nat, 1 ≤ k ∧ k ≤ m ∧ s = nI k := by
  have h1 := oct_pos h0
  have h2 := oct_le hm h
  exact ⟨s.toInt.toNat, by omega, by omega, i32_nat (by omega)⟩
theorem e8_ws {s : Int32} {h : Nat} (h1 : h ≤ 1) (h0 : 0 < fz (e8 s)) (hm : fz (e8 s) ≤ if h = 0 then fz 4636737291354636288 else fz FP.dconst1) : wS (h, e8 s) := by
  have hp := f1_pos
  have e5 := fz_100
  have e1 := fz_one
  by_cases e : h = 0
  · rw [if_pos e] at hm
    obtain ⟨k, k1, k2, k3⟩ := e8_k (m := 800) (by omega) h0 (by show _ ≤ (800 : Int) * f1; omega)
    exact ⟨h1, k, k1, k2, fun q => by have : h = 1 := q; omega, by show e8 s = _; rw [k3]; rfl⟩
  · rw [if_neg e] at hm
    obtain ⟨k, k1, k2, k3⟩ := e8_k (m := 8) (by omega) h0 (by show _ ≤ (8 : Int) * f1; omega)
    exact ⟨h1, k, k1, by omega, fun _ => k2, by show e8 s = _; rw [k3]; rfl⟩
theorem y_nat (y : Int32) : ∃ a : Nat, y = nI a ∧ (0 ≤ y.toInt → (a : Int) = y.toInt) := by
  by_cases h : 0 ≤ y.toInt
  · exact ⟨y.toInt.toNat, i32_nat h, fun _ => by omega⟩
  · exact ⟨y.toBitVec.toNat, (nI_all y).symm, fun q => absurd q h⟩
theorem win_8 : ∀ n, 1 ≤ n → n ≤ 4 → FP.d2i (oct (8 * n)) = nI n := by
  intro n h1 h4
  have : ∀ n, n < 5 → 1 ≤ n → FP.d2i (oct (8 * n)) = nI n := by decide +kernel
  exact this n (by omega) h1
theorem win_w {s : Int32} {n : Nat} (h1 : 1 ≤ n) (h4 : n ≤ 4) (h : fz (e8 s) = (n : Int) * f1) : e8 s = oct (8 * n) := by
  have hp := f1_pos
  have a1 : (1 : Int) * f1 ≤ (n : Int) * f1 := Int.mul_le_mul_of_nonneg_right (by omega) (by omega)
  have a2 : ((8 * n : Nat) : Int) * f1 = 8 * ((n : Int) * f1) := by rw [Int.natCast_mul, Int.mul_assoc]; rfl
  obtain ⟨k, k1, k2, k3⟩ := e8_k (s := s) (m := 8 * n) (by omega) (by omega) (by rw [h, a2]; omega)
  rw [k3, e8_n]
  have ho := oct_z k (by omega)
  rw [k3, e8_n] at h
  rw [h] at ho
  have : (k : Int) * f1 = ((8 * n : Nat) : Int) * f1 := by rw [a2]; omega
  have := Int.eq_of_mul_eq_mul_right (show f1 ≠ 0 by omega) this
  have : k = 8 * n := by omega
  rw [this]
theorem tok_good {x y s : Int32} (hN : nmP x.toInt y.toInt) (hW : wtP x.toInt (fz (e8 s))) : ∃ k a : Nat, x = nI k ∧ y = nI a ∧ gTok k a (e8 s) := by
  obtain ⟨n1, n2, n3, n4⟩ := hN
  obtain ⟨w1, w2⟩ := hW
  obtain ⟨a, ha, hb⟩ := y_nat y
  have hp := f1_pos
  have hk : ((x.toInt.toNat : Nat) : Int) = x.toInt := by omega
  refine ⟨x.toInt.toNat, a, i32_nat n1.1, ha, by omega, fun h => ?_, fun h => ?_, fun h1 h2 => ?_, fun h1 h2 => ?_, e8_f s, ?_, ?_⟩
  · have := n2 (by omega); have := hb (by omega); omega
  · have := n3 (by omega); have := hb (by omega); omega
  · have := n4 (by omega) (by omega); have := hb (by omega); omega
  · have key : ∃ n : Nat, 1 ≤ n ∧ n ≤ 4 ∧ fz (e8 s) = (n : Int) * f1 := by
      rcases w1 (by omega) (by omega) with h | h | h | h
      · exact ⟨1, by omega, by omega, by rw [h]; show f1 = (1 : Int) * f1; omega⟩
      · exact ⟨2, by omega, by omega, by rw [h]; rfl⟩
      · exact ⟨3, by omega, by omega, by rw [h]; rfl⟩
      · exact ⟨4, by omega, by omega, by rw [h]; rfl⟩
    obtain ⟨n, m1, m2, m3⟩ := key
    have e := win_8 n m1 m2
    rw [win_w m1 m2 m3]
    have ew : wn (oct (8 * n)) = n := by simp only [wn]; rw [e, nI_clamp (by omega)]
    rw [ew]
    exact ⟨e, m1, m2⟩
  · by_cases h : 2 ≤ x.toInt ∧ x.toInt ≤ 4
    · have := w1 h.1 h.2; omega
    · exact (w2 (by omega)).1
  · rw [show fz d100 = 100 * f1 from fz_100]
    by_cases h : 2 ≤ x.toInt ∧ x.toInt ≤ 4
    · have := w1 h.1 h.2; omega
    · exact (w2 (by omega)).2
