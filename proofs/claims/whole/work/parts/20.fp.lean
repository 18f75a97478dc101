/-! doubles as whole numbers of the least number: what an operation answers lies between what the exact result lies between -/
abbrev fz (a : UInt64) : Int := FP.Core.zval FP.Core.b64 (FP.Core.val64 a)
abbrev fN (a : UInt64) : Prop := FP.Core.val64 a ≠ .nan
abbrev fF (a : UInt64) : Prop := FP.Core.DFin a
abbrev f1 : Int := (FP.Core.one64 : Int)
theorem f1_pos : 0 < f1 := by have := FP.Core.one64_pos; show (0 : Int) < (FP.Core.one64 : Int); omega
theorem fF.n {a : UInt64} (h : fF a) : fN a := FP.Core.DFin.ne_nan h
theorem f_n64 {a : UInt64} (h : fN a) : vf_n64 a := by
  have h1 := (FP.Core.ne_nan a).mp h
  show (a &&& 0x7fffffffffffffff) ≤ 0x7ff0000000000000
  rw [UInt64.le_iff_toNat_le, FP.Core.mask_toNat]
  exact h1
theorem f_nn {a : UInt64} (h : FP.Core.dIsNaN a = false) : fN a := (FP.Core.notNaN_iff a).mp h
theorem f_nn' {a : UInt64} (h : fN a) : FP.Core.dIsNaN a = false := (FP.Core.notNaN_iff a).mpr h
theorem f_top {a : UInt64} (h : fF a) : -((FP.Core.b64.tails * 2 ^ (FP.Core.b64.exps - 2) : Nat) : Int) < fz a ∧ fz a < ((FP.Core.b64.tails * 2 ^ (FP.Core.b64.exps - 2) : Nat) : Int) := by
  have h1 := FP.Core.DFin.zval_lt h
  show _ < FP.Core.signed _ _ ∧ FP.Core.signed _ _ < _
  generalize FP.Core.zmag FP.Core.b64 (FP.Core.val64 a) = z at *
  generalize FP.Core.b64.tails * 2 ^ (FP.Core.b64.exps - 2) = w at *
  generalize FP.Core.sgn (FP.Core.val64 a) = g at *
  cases g <;> simp only [FP.Core.signed, if_true, Bool.false_eq_true, if_false] <;> omega
theorem f_fin {a lo hi : UInt64} (h : fN a) (h1 : fF lo) (h2 : fF hi) (h3 : fz lo ≤ fz a) (h4 : fz a ≤ fz hi) : fF a := by
  have t1 := f_top h1
  have t2 := f_top h2
  cases hv : FP.Core.val64 a with
  | nan => exact absurd hv h
  | fin s c q => exact ⟨s, c, q, hv⟩
  | inf s =>
    exfalso
    have e : fz a = FP.Core.signed s (FP.Core.b64.tails * 2 ^ (FP.Core.b64.exps - 2)) := by
      show FP.Core.zval FP.Core.b64 (FP.Core.val64 a) = _
      rw [hv]; rfl
    rw [e] at h3 h4
    generalize FP.Core.b64.tails * 2 ^ (FP.Core.b64.exps - 2) = w at *
    cases s <;> simp only [FP.Core.signed, if_true, Bool.false_eq_true, if_false] at h3 h4 <;> omega
theorem f_add_n {a b : UInt64} (ha : fF a) (hb : fF b) : fN (FP.dadd a b) := f_nn (FP.Core.dadd_out ha.notNaN hb)
theorem f_sub_n {a b : UInt64} (ha : fF a) (hb : fF b) : fN (FP.dsub a b) := f_nn (FP.Core.dsub_out ha.notNaN hb)
theorem f_mul_n {a b : UInt64} (ha : fF a) (hb : fF b) : fN (FP.dmul a b) := f_nn (FP.Core.dmul_out ha hb)
theorem f_add_le {a b v : UInt64} (ha : fF a) (hb : fF b) (hv : fN v) (h : fz a + fz b ≤ fz v) : fz (FP.dadd a b) ≤ fz v := by
  show FP.Core.zval _ (FP.Core.val64 (FP.Core.dadd a b)) ≤ _
  rw [FP.Core.val64_dadd]
  exact FP.Core.sum_le FP.Core.good_b64 ha hb (FP.Core.val64_fits a) (FP.Core.val64_fits b) (FP.Core.val64_fits v) hv h
theorem f_add_ge {a b v : UInt64} (ha : fF a) (hb : fF b) (hv : fN v) (h : fz v ≤ fz a + fz b) : fz v ≤ fz (FP.dadd a b) := by
  show _ ≤ FP.Core.zval _ (FP.Core.val64 (FP.Core.dadd a b))
  rw [FP.Core.val64_dadd]
  exact FP.Core.sum_ge FP.Core.good_b64 ha hb (FP.Core.val64_fits a) (FP.Core.val64_fits b) (FP.Core.val64_fits v) hv h
theorem f_neg {b : UInt64} (hb : fF b) : ∃ s c q, FP.Core.negate (FP.Core.val64 b) = .fin s c q := by
  obtain ⟨s, c, q, h⟩ := hb
  exact ⟨!s, c, q, by rw [h]; rfl⟩
theorem f_sub_le {a b v : UInt64} (ha : fF a) (hb : fF b) (hv : fN v) (h : fz a - fz b ≤ fz v) : fz (FP.dsub a b) ≤ fz v := by
  show FP.Core.zval _ (FP.Core.val64 (FP.Core.dsub a b)) ≤ _
  rw [FP.Core.val64_dsub]
  refine FP.Core.sum_le FP.Core.good_b64 ha (f_neg hb) (FP.Core.val64_fits a) (FP.Core.negate_fits (FP.Core.val64_fits b)) (FP.Core.val64_fits v) hv ?_
  rw [FP.Core.zval_negate]
  show fz a + -fz b ≤ fz v
  omega
theorem f_sub_ge {a b v : UInt64} (ha : fF a) (hb : fF b) (hv : fN v) (h : fz v ≤ fz a - fz b) : fz v ≤ fz (FP.dsub a b) := by
  show _ ≤ FP.Core.zval _ (FP.Core.val64 (FP.Core.dsub a b))
  rw [FP.Core.val64_dsub]
  refine FP.Core.sum_ge FP.Core.good_b64 ha (f_neg hb) (FP.Core.val64_fits a) (FP.Core.negate_fits (FP.Core.val64_fits b)) (FP.Core.val64_fits v) hv ?_
  rw [FP.Core.zval_negate]
  show fz v ≤ fz a + -fz b
  omega
theorem f_q2 : (FP.Core.b64.qmin - 2 * FP.Core.b64.qmin).toNat = (-FP.Core.b64.qmin).toNat := by rw [FP.Core.qmin_b64]; rfl
theorem f_mul_le {a b v : UInt64} (ha : fF a) (hb : fF b) (hv : fN v) (h : fz a * fz b ≤ fz v * f1) : fz (FP.dmul a b) ≤ fz v := by
  have fa := FP.Core.val64_fits a
  have fb := FP.Core.val64_fits b
  obtain ⟨s, c, q, ea⟩ := id ha
  obtain ⟨t, d, r, eb⟩ := id hb
  show FP.Core.zval _ (FP.Core.val64 (FP.Core.dmul a b)) ≤ _
  have h' : FP.Core.zval FP.Core.b64 (.fin s c q) * FP.Core.zval FP.Core.b64 (.fin t d r) ≤ fz v * f1 := by rw [← ea, ← eb]; exact h
  rw [FP.Core.val64_dmul]
  rw [ea] at fa ⊢
  rw [eb] at fb ⊢
  obtain ⟨e1, e2, e3⟩ := FP.Core.product_units fa fb
  rw [e1]
  refine FP.Core.zval_round_le FP.Core.good_b64 (FP.Core.val64_fits v) hv (e0 := 2 * FP.Core.b64.qmin) (by rw [FP.Core.qmin_b64]; omega) e2 ?_
  rw [e3, f_q2, FP.Core.pow_qmin64, FP.Core.signed_xor]
  exact h'
theorem f_mul_ge {a b v : UInt64} (ha : fF a) (hb : fF b) (hv : fN v) (h : fz v * f1 ≤ fz a * fz b) : fz v ≤ fz (FP.dmul a b) := by
  have fa := FP.Core.val64_fits a
  have fb := FP.Core.val64_fits b
  obtain ⟨s, c, q, ea⟩ := id ha
  obtain ⟨t, d, r, eb⟩ := id hb
  show _ ≤ FP.Core.zval _ (FP.Core.val64 (FP.Core.dmul a b))
  have h' : fz v * f1 ≤ FP.Core.zval FP.Core.b64 (.fin s c q) * FP.Core.zval FP.Core.b64 (.fin t d r) := by rw [← ea, ← eb]; exact h
  rw [FP.Core.val64_dmul]
  rw [ea] at fa ⊢
  rw [eb] at fb ⊢
  obtain ⟨e1, e2, e3⟩ := FP.Core.product_units fa fb
  rw [e1]
  refine FP.Core.zval_round_ge FP.Core.good_b64 (FP.Core.val64_fits v) hv (e0 := 2 * FP.Core.b64.qmin) (by rw [FP.Core.qmin_b64]; omega) e2 ?_
  rw [e3, f_q2, FP.Core.pow_qmin64, FP.Core.signed_xor]
  exact h'
/-- a quotient of finite numbers by one that is not 0, in units -/
theorem f_div_eq {a b : UInt64} {s t : Bool} {c d : Nat} {q r : Int} (ea : FP.Core.val64 a = .fin s c q) (eb : FP.Core.val64 b = .fin t d r) (hd : d ≠ 0) : FP.Core.val64 (FP.ddiv a b) = FP.Core.roundRatio FP.Core.b64 (s != t) c d (q - r) := by
  show FP.Core.val64 (FP.Core.ddiv a b) = _
  rw [FP.Core.val64_ddiv, ea, eb]
  show (if d = 0 then _ else _) = _
  rw [if_neg hd]
theorem f_zpos {t : Bool} {d : Nat} {r : Int} (h : 0 < FP.Core.zval FP.Core.b64 (.fin t d r)) : t = false ∧ d ≠ 0 := by
  cases t with
  | true =>
    have : FP.Core.zval FP.Core.b64 (.fin true d r) = -((FP.Core.inUnits d r FP.Core.b64.qmin : Nat) : Int) := rfl
    rw [this] at h; omega
  | false =>
    refine ⟨rfl, fun e => ?_⟩
    subst e
    have : FP.Core.zval FP.Core.b64 (.fin false 0 r) = ((0 * 2 ^ (r - FP.Core.b64.qmin).toNat : Nat) : Int) := rfl
    rw [this, Nat.zero_mul] at h; omega
theorem f_div_n {a b : UInt64} (ha : fF a) (hb : fF b) (h0 : 0 < fz b) : fN (FP.ddiv a b) := by
  obtain ⟨s, c, q, ea⟩ := ha
  obtain ⟨t, d, r, eb⟩ := hb
  have hz := f_zpos (t := t) (d := d) (r := r) (by rw [← eb]; exact h0)
  show FP.Core.val64 (FP.ddiv a b) ≠ _
  rw [f_div_eq ea eb hz.2]
  exact FP.Core.roundRatio_ne_nan _ _ _ _ _
theorem f_div_units {c d : Nat} {q r : Int} (hq : FP.Core.b64.qmin ≤ q) (hr : FP.Core.b64.qmin ≤ r) : FP.Core.inUnits c (q - r) (2 * FP.Core.b64.qmin - r) = FP.Core.inUnits c q FP.Core.b64.qmin * FP.Core.one64 ∧ 2 ^ (FP.Core.b64.qmin - (2 * FP.Core.b64.qmin - r)).toNat * d = FP.Core.inUnits d r FP.Core.b64.qmin := by
  rw [← FP.Core.pow_qmin64]
  rw [FP.Core.qmin_b64] at *
  constructor
  · unfold FP.Core.inUnits
    rw [Nat.mul_assoc, ← Nat.pow_add]
    congr 2
    omega
  · unfold FP.Core.inUnits
    rw [Nat.mul_comm]
    congr 2
    omega
theorem f_div_le {a b v : UInt64} (ha : fF a) (hb : fF b) (hv : fN v) (h0 : 0 ≤ fz a) (h1 : 0 < fz b) (h2 : 0 ≤ fz v) (h : fz a * f1 ≤ fz v * fz b) : 0 ≤ fz (FP.ddiv a b) ∧ fz (FP.ddiv a b) ≤ fz v := by
  have fa := FP.Core.val64_fits a
  have fb := FP.Core.val64_fits b
  have fv := FP.Core.val64_fits v
  obtain ⟨s, c, q, ea⟩ := id ha
  obtain ⟨t, d, r, eb⟩ := id hb
  have hz := f_zpos (t := t) (d := d) (r := r) (by rw [← eb]; exact h1)
  obtain ⟨rfl, hd⟩ := hz
  rw [ea] at fa
  rw [eb] at fb
  obtain ⟨u1, u2⟩ := f_div_units (c := c) (d := d) fa.2.1 fb.2.1
  have ea' : fz a = FP.Core.signed s (FP.Core.inUnits c q FP.Core.b64.qmin) := by show FP.Core.zval _ (FP.Core.val64 a) = _; rw [ea]; rfl
  have eb' : fz b = ((FP.Core.inUnits d r FP.Core.b64.qmin : Nat) : Int) := by show FP.Core.zval _ (FP.Core.val64 b) = _; rw [eb]; rfl
  have hs : s = false ∨ FP.Core.inUnits c q FP.Core.b64.qmin = 0 := by
    cases s with
    | false => exact Or.inl rfl
    | true =>
      right
      rw [ea'] at h0
      simp only [FP.Core.signed, if_true] at h0
      omega
  have ev : fz v = ((FP.Core.zmag FP.Core.b64 (FP.Core.val64 v) : Nat) : Int) := by
    show FP.Core.signed _ _ = _
    have h2' : 0 ≤ FP.Core.signed (FP.Core.sgn (FP.Core.val64 v)) (FP.Core.zmag FP.Core.b64 (FP.Core.val64 v)) := h2
    generalize FP.Core.zmag FP.Core.b64 (FP.Core.val64 v) = z at *
    generalize FP.Core.sgn (FP.Core.val64 v) = g at *
    cases g
    · rfl
    · simp only [FP.Core.signed, if_true] at h2' ⊢; omega
  have key : FP.Core.zmag FP.Core.b64 (FP.Core.roundRatio FP.Core.b64 (s != false) c d (q - r)) ≤ FP.Core.zmag FP.Core.b64 (FP.Core.val64 v) := by
    refine FP.Core.zmag_roundRatio_le FP.Core.good_b64 (e0 := 2 * FP.Core.b64.qmin - r) (Nat.pos_of_ne_zero hd) fv hv (by have := fb.2.1; omega) (by have := fa.2.1; have := FP.Core.qmin_b64; omega) ?_
    rw [u1, Nat.mul_assoc, u2]
    have h' : FP.Core.signed s (FP.Core.inUnits c q FP.Core.b64.qmin) * f1 ≤ ((FP.Core.zmag FP.Core.b64 (FP.Core.val64 v) : Nat) : Int) * ((FP.Core.inUnits d r FP.Core.b64.qmin : Nat) : Int) := by rw [← ea', ← ev, ← eb']; exact h
    rcases hs with rfl | hs
    · have h'' : ((FP.Core.inUnits c q FP.Core.b64.qmin : Nat) : Int) * (FP.Core.one64 : Int) ≤ _ := h'
      exact_mod_cast h''
    · rw [hs, Nat.zero_mul]; exact Nat.zero_le _
  have e9 : fz (FP.ddiv a b) = FP.Core.signed (s != false) (FP.Core.zmag FP.Core.b64 (FP.Core.roundRatio FP.Core.b64 (s != false) c d (q - r))) := by
    show FP.Core.zval _ (FP.Core.val64 (FP.ddiv a b)) = _
    rw [f_div_eq ea eb hd]
    show FP.Core.signed (FP.Core.sgn _) _ = _
    rw [FP.Core.sgn_roundRatio]
  rw [e9, ev]
  rcases hs with rfl | hs
  · show (0 : Int) ≤ ((_ : Nat) : Int) ∧ ((_ : Nat) : Int) ≤ _
    exact ⟨Int.natCast_nonneg _, by exact_mod_cast key⟩
  · have hc : c = 0 := by
      unfold FP.Core.inUnits at hs
      rcases Nat.mul_eq_zero.mp hs with h | h
      · exact h
      · exact absurd h (Nat.pos_iff_ne_zero.mp (Nat.two_pow_pos _))
    have z0 : FP.Core.zmag FP.Core.b64 (FP.Core.roundRatio FP.Core.b64 (s != false) c d (q - r)) = 0 := by
      subst hc
      show FP.Core.zmag _ (if 0 = 0 then FP.Core.Datum.fin _ 0 _ else _) = 0
      rw [if_pos rfl]
      show FP.Core.inUnits 0 _ _ = 0
      unfold FP.Core.inUnits
      rw [Nat.zero_mul]
    rw [z0, FP.Core.signed_zero]
    exact ⟨Int.le_refl _, Int.natCast_nonneg _⟩
theorem f_div_neg {a b : UInt64} (ha : fF a) (hb : fF b) (h0 : fz a ≤ 0) (h1 : 0 < fz b) : fz (FP.ddiv a b) ≤ 0 := by
  obtain ⟨s, c, q, ea⟩ := id ha
  obtain ⟨t, d, r, eb⟩ := id hb
  have hz := f_zpos (t := t) (d := d) (r := r) (by rw [← eb]; exact h1)
  obtain ⟨rfl, hd⟩ := hz
  have e9 : fz (FP.ddiv a b) = FP.Core.signed (s != false) (FP.Core.zmag FP.Core.b64 (FP.Core.roundRatio FP.Core.b64 (s != false) c d (q - r))) := by
    show FP.Core.zval _ (FP.Core.val64 (FP.ddiv a b)) = _
    rw [f_div_eq ea eb hd]
    show FP.Core.signed (FP.Core.sgn _) _ = _
    rw [FP.Core.sgn_roundRatio]
  rw [e9]
  cases s with
  | true =>
    show -((_ : Nat) : Int) ≤ 0
    omega
  | false =>
    have ea' : fz a = ((FP.Core.inUnits c q FP.Core.b64.qmin : Nat) : Int) := by show FP.Core.zval _ (FP.Core.val64 a) = _; rw [ea]; rfl
    rw [ea'] at h0
    have hs : FP.Core.inUnits c q FP.Core.b64.qmin = 0 := by omega
    have hc : c = 0 := by
      unfold FP.Core.inUnits at hs
      rcases Nat.mul_eq_zero.mp hs with h | h
      · exact h
      · exact absurd h (Nat.pos_iff_ne_zero.mp (Nat.two_pow_pos _))
    subst hc
    have z0 : FP.Core.zmag FP.Core.b64 (FP.Core.roundRatio FP.Core.b64 (false != false) 0 d (q - r)) = 0 := by
      show FP.Core.zmag _ (if 0 = 0 then FP.Core.Datum.fin _ 0 _ else _) = 0
      rw [if_pos rfl]
      show FP.Core.inUnits 0 _ _ = 0
      unfold FP.Core.inUnits
      rw [Nat.zero_mul]
    rw [z0, FP.Core.signed_zero]
    exact Int.le_refl _
/-- 0 to 1 -/
def f01 (a : UInt64) : Prop := fF a ∧ 0 ≤ fz a ∧ fz a ≤ f1
theorem fz_one : fz FP.dconst1 = f1 := by
  have := FP.Core.DInt_zval FP.Core.dint_one
  show FP.Core.zval _ (FP.Core.val64 4607182418800017408) = _
  rw [this, Int.one_mul]
theorem fz_zero : fz FP.dconst0 = 0 := FP.Core.zval64_zero
theorem fF_one : fF FP.dconst1 := (FP.Core.fin_bits _).mpr (by decide +kernel)
theorem fF_zero : fF FP.dconst0 := (FP.Core.fin_bits _).mpr (by decide +kernel)
theorem f01_one : f01 FP.dconst1 := ⟨fF_one, by rw [fz_one]; exact Int.le_of_lt f1_pos, by rw [fz_one]; exact Int.le_refl _⟩
theorem f01_zero : f01 FP.dconst0 := ⟨fF_zero, by rw [fz_zero]; exact Int.le_refl _, by rw [fz_zero]; exact Int.le_of_lt f1_pos⟩
theorem f01_of {a : UInt64} (h : fN a) (h1 : 0 ≤ fz a) (h2 : fz a ≤ f1) : f01 a := ⟨f_fin h fF_zero fF_one (by rw [fz_zero]; exact h1) (by rw [fz_one]; exact h2), h1, h2⟩
theorem f01_mul {a b : UInt64} (ha : f01 a) (hb : f01 b) : f01 (FP.dmul a b) := by
  refine f01_of (f_mul_n ha.1 hb.1) ?_ ?_
  · rw [← fz_zero]
    refine f_mul_ge ha.1 hb.1 fF_zero.n ?_
    rw [fz_zero, Int.zero_mul]
    exact Int.mul_nonneg ha.2.1 hb.2.1
  · rw [← fz_one]
    refine f_mul_le ha.1 hb.1 fF_one.n ?_
    rw [fz_one]
    exact Int.mul_le_mul ha.2.2 hb.2.2 hb.2.1 (Int.le_of_lt f1_pos)
theorem f01_sub {a : UInt64} (ha : f01 a) : f01 (FP.dsub FP.dconst1 a) := by
  refine f01_of (f_sub_n fF_one ha.1) ?_ ?_
  · rw [← fz_zero]
    refine f_sub_ge fF_one ha.1 fF_zero.n ?_
    rw [fz_zero, fz_one]
    have := ha.2.2
    omega
  · rw [← fz_one]
    refine f_sub_le fF_one ha.1 fF_one.n ?_
    rw [fz_one]
    have := ha.2.1
    omega
/-- a quotient of a number by one that is no less -/
theorem f01_div {a b : UInt64} (ha : fF a) (hb : fF b) (h0 : 0 ≤ fz a) (h1 : 0 < fz b) (h : fz a ≤ fz b) : f01 (FP.ddiv a b) := by
  obtain ⟨g1, g2⟩ := f_div_le ha hb fF_one.n h0 h1 (by rw [fz_one]; exact Int.le_of_lt f1_pos) (by rw [fz_one, Int.mul_comm]; exact Int.mul_le_mul_of_nonneg_left h (Int.le_of_lt f1_pos))
  exact f01_of (f_div_n ha hb h1) g1 (by rw [← fz_one]; exact g2)
