/-! sums of doubles are monotone; comparisons; constants -/
theorem f_add_val {a b : UInt64} (ha : fF a) (hb : fF b) (h : 0 < fz a + fz b) : FP.Core.val64 (FP.dadd a b) = FP.Core.round FP.Core.b64 (.fin false (fz a + fz b).toNat FP.Core.b64.qmin) := by
  show FP.Core.val64 (FP.Core.dadd a b) = _
  rw [FP.Core.val64_dadd]
  obtain ⟨s, c, q, ea⟩ := ha
  obtain ⟨t, d, r, eb⟩ := hb
  have fa := FP.Core.val64_fits a
  have fb := FP.Core.val64_fits b
  simp only [fz] at h ⊢
  rw [ea] at fa h ⊢
  rw [eb] at fb h ⊢
  obtain ⟨sg, n, e, h1, h2, h3⟩ := FP.Core.sum_units fa fb
  rw [h1]
  rw [← h3] at h ⊢
  cases sg with
  | true => simp [FP.Core.signed] at h; omega
  | false =>
    show _ = FP.Core.round FP.Core.b64 (.fin false ((FP.Core.inUnits n e FP.Core.b64.qmin : Nat) : Int).toNat FP.Core.b64.qmin)
    rw [Int.toNat_natCast]
    exact (FP.Core.round_inUnits false n h2).symm
theorem f_near {a b v : UInt64} (ha : fF a) (hb : fF b) (hr : fF (FP.dadd a b)) (h : 0 < fz a + fz b) (hv : fF v) (h0 : 0 ≤ fz v) : (fz a + fz b - fz (FP.dadd a b)).natAbs ≤ (fz a + fz b - fz v).natAbs := by
  have e := f_add_val ha hb h
  obtain ⟨s, c, q, er⟩ := hr
  obtain ⟨t, d, r, ev⟩ := hv
  have fv := FP.Core.val64_fits v
  rw [ev] at fv
  have e2 : FP.Core.roundRatio FP.Core.b64 false (fz a + fz b).toNat 1 FP.Core.b64.qmin = .fin s c q := by rw [← er, e]; rfl
  have hs := FP.Core.sgn_roundRatio FP.Core.b64 false (fz a + fz b).toNat 1 FP.Core.b64.qmin
  rw [e2] at hs
  have hs' : s = false := hs
  subst hs'
  have hd := FP.Core.roundRatio_nearest FP.Core.good_b64 (by decide) e2 fv.1 fv.2.1 (Int.le_refl _) (Int.le_refl _)
  have z1 : fz (FP.dadd a b) = (FP.Core.inUnits c q FP.Core.b64.qmin : Int) := by simp only [fz]; rw [er]; rfl
  have z2 : fz v = (FP.Core.inUnits d r FP.Core.b64.qmin : Int) := by
    have e9 : fz v = FP.Core.signed t (FP.Core.inUnits d r FP.Core.b64.qmin) := by simp only [fz]; rw [ev]; rfl
    rw [e9] at h0 ⊢
    cases t with
    | false => rfl
    | true => simp only [FP.Core.signed, if_true] at h0 ⊢; omega
  rw [z1, z2]
  have e3 : (FP.Core.inUnits (fz a + fz b).toNat FP.Core.b64.qmin FP.Core.b64.qmin : Int) = fz a + fz b := by
    simp only [FP.Core.inUnits, Int.sub_self]
    show (((fz a + fz b).toNat * 2 ^ 0 : Nat) : Int) = _
    rw [Nat.pow_zero, Nat.mul_one, Int.toNat_of_nonneg (by omega)]
  simp only [FP.Core.distance] at hd
  rw [e3] at hd
  simpa using hd
theorem f_add_mono {a b c d : UInt64} (ha : fF a) (hb : fF b) (hc : fF c) (hd : fF d) (r1 : fF (FP.dadd a b)) (r2 : fF (FP.dadd c d)) (h0 : 0 ≤ fz a + fz b) (h : fz a + fz b ≤ fz c + fz d) : fz (FP.dadd a b) ≤ fz (FP.dadd c d) := by
  by_cases hz : fz a + fz b = 0
  · have h1 := f_add_le ha hb fF_zero.n (by rw [fz_zero, hz]; exact Int.le_refl _)
    have h2 := f_add_ge hc hd fF_zero.n (by rw [fz_zero]; omega)
    exact Int.le_trans h1 h2
  · by_cases he : fz a + fz b = fz c + fz d
    · have e1 := f_add_val ha hb (by omega)
      have e2 := f_add_val hc hd (by omega)
      rw [← he, ← e1] at e2
      simp only [fz] at *
      rw [e2]; exact Int.le_refl _
    · have g1 : 0 ≤ fz (FP.dadd a b) := by rw [← fz_zero]; exact f_add_ge ha hb fF_zero.n (by rw [fz_zero]; omega)
      have g2 : 0 ≤ fz (FP.dadd c d) := by rw [← fz_zero]; exact f_add_ge hc hd fF_zero.n (by rw [fz_zero]; omega)
      have n1 := f_near ha hb r1 (by omega) r2 g2
      have n2 := f_near hc hd r2 (by omega) r1 g1
      have u1 : fz a + fz b ≤ fz (FP.dadd c d) → fz (FP.dadd a b) ≤ fz (FP.dadd c d) := f_add_le ha hb r2.n
      have u2 : fz (FP.dadd a b) ≤ fz c + fz d → fz (FP.dadd a b) ≤ fz (FP.dadd c d) := f_add_ge hc hd r1.n
      generalize fz (FP.dadd a b) = U at *
      generalize fz (FP.dadd c d) = V at *
      generalize fz a + fz b = s1 at *
      generalize fz c + fz d = s2 at *
      by_cases x : U ≤ V
      · exact x
      · have := fun q => x (u1 q)
        have := fun q => x (u2 q)
        omega
/-! comparisons by the whole numbers -/
theorem f_cmp {x y : UInt64} (hx : fN x) (hy : fN y) (o : CmpOp) : Op.cmpValue (FP.dcmp x y) o = if fz x < fz y then -1 else if fz x = fz y then 0 else 1 := by
  have : FP.dcmp x y = some (compare (fz x) (fz y)) := FP.Core.dcmp_zval hx hy
  rw [this]
  simp only [compare, compareOfLessAndEq]
  split
  · rfl
  · split <;> rfl
section AD
variable {Y : ab_Y} {l : Launch} {Z : (Nat → Nat) → State → Prop} {K : ab_K} {d w pc : Nat} {lv : List (Nat × Value)} {st : List Value} {M : ab_M} {n1 n2 : Nat} {Q : ab_O → ab_M → Prop} {x y : UInt64} {o : CmpOp} {off : Int} {tgt : Nat}
theorem ad_gt (hx : fN x) (hy : fN y) (hd : decode (kB K) pc = .ok (.ifCond .gt off, 3)) (ht : (pc : Int) + off = (tgt : Int)) (kt : fz y < fz x → AW Y l Z K d w tgt lv st M n1 n2 Q) (kf : fz x ≤ fz y → AW Y l Z K d w (pc + 3) lv st M n1 n2 Q) : AW Y l Z K d w pc lv (.int (Op.cmpValue (FP.dcmp x y) o) :: st) M n1 n2 Q := by
  rw [f_cmp hx hy]
  refine aw_if_gt hd ht (fun c => kt ?_) (fun c => kf ?_)
  · split at c
    · exact absurd c (by decide)
    · split at c
      · exact absurd c (by decide)
      · omega
  · split at c
    · omega
    · split at c
      · omega
      · exact absurd (by decide) c
theorem ad_le (hx : fN x) (hy : fN y) (hd : decode (kB K) pc = .ok (.ifCond .le off, 3)) (ht : (pc : Int) + off = (tgt : Int)) (kt : fz x ≤ fz y → AW Y l Z K d w tgt lv st M n1 n2 Q) (kf : fz y < fz x → AW Y l Z K d w (pc + 3) lv st M n1 n2 Q) : AW Y l Z K d w pc lv (.int (Op.cmpValue (FP.dcmp x y) o) :: st) M n1 n2 Q := by
  rw [f_cmp hx hy]
  refine aw_if_le hd ht (fun c => kt ?_) (fun c => kf ?_)
  · split at c
    · omega
    · split at c
      · omega
      · exact absurd c (by decide)
  · split at c
    · exact absurd (by decide) c
    · split at c
      · exact absurd (by decide) c
      · omega
theorem ad_lt (hx : fN x) (hy : fN y) (hd : decode (kB K) pc = .ok (.ifCond .lt off, 3)) (ht : (pc : Int) + off = (tgt : Int)) (kt : fz x < fz y → AW Y l Z K d w tgt lv st M n1 n2 Q) (kf : fz y ≤ fz x → AW Y l Z K d w (pc + 3) lv st M n1 n2 Q) : AW Y l Z K d w pc lv (.int (Op.cmpValue (FP.dcmp x y) o) :: st) M n1 n2 Q := by
  rw [f_cmp hx hy]
  refine aw_if_lt hd ht (fun c => kt ?_) (fun c => kf ?_)
  · split at c
    · omega
    · split at c
      · exact absurd c (by decide)
      · exact absurd c (by decide)
  · split at c
    · exact absurd (by decide) c
    · omega
theorem ad_ge (hx : fN x) (hy : fN y) (hd : decode (kB K) pc = .ok (.ifCond .ge off, 3)) (ht : (pc : Int) + off = (tgt : Int)) (kt : fz y ≤ fz x → AW Y l Z K d w tgt lv st M n1 n2 Q) (kf : fz x < fz y → AW Y l Z K d w (pc + 3) lv st M n1 n2 Q) : AW Y l Z K d w pc lv (.int (Op.cmpValue (FP.dcmp x y) o) :: st) M n1 n2 Q := by
  rw [f_cmp hx hy]
  refine aw_if_ge hd ht (fun c => kt ?_) (fun c => kf ?_)
  · split at c
    · exact absurd c (by decide)
    · omega
  · split at c
    · omega
    · split at c
      · exact absurd (by decide) c
      · exact absurd (by decide) c
theorem ad_eq (hx : fN x) (hy : fN y) (hd : decode (kB K) pc = .ok (.ifCond .eq off, 3)) (ht : (pc : Int) + off = (tgt : Int)) (kt : fz x = fz y → AW Y l Z K d w tgt lv st M n1 n2 Q) (kf : fz x ≠ fz y → AW Y l Z K d w (pc + 3) lv st M n1 n2 Q) : AW Y l Z K d w pc lv (.int (Op.cmpValue (FP.dcmp x y) o) :: st) M n1 n2 Q := by
  rw [f_cmp hx hy]
  refine aw_if_eq hd ht (fun c => kt ?_) (fun c => kf ?_)
  · split at c
    · exact absurd c (by decide)
    · split at c
      · assumption
      · exact absurd c (by decide)
  · split at c
    · omega
    · split at c
      · exact absurd rfl c
      · assumption
theorem ad_ne (hx : fN x) (hy : fN y) (hd : decode (kB K) pc = .ok (.ifCond .ne off, 3)) (ht : (pc : Int) + off = (tgt : Int)) (kt : fz x ≠ fz y → AW Y l Z K d w tgt lv st M n1 n2 Q) (kf : fz x = fz y → AW Y l Z K d w (pc + 3) lv st M n1 n2 Q) : AW Y l Z K d w pc lv (.int (Op.cmpValue (FP.dcmp x y) o) :: st) M n1 n2 Q := by
  rw [f_cmp hx hy]
  refine aw_if_ne hd ht (fun c => kt ?_) (fun c => kf ?_)
  · split at c
    · omega
    · split at c
      · exact absurd rfl c
      · assumption
  · split at c
    · exact absurd c (by decide)
    · split at c
      · assumption
      · exact absurd c (by decide)
end AD
/-! constants -/
def oct (k : Nat) : UInt64 := FP.dmul (FP.i2d (nI k)) 4593671619917905920
def pw (k : Nat) : UInt64 := UInt64.ofNat ((963 + k) * 4503599627370496)
theorem oct_z : ∀ k, k < 1000 → fz (oct k) * 8 = (k : Int) * f1 := by decide +kernel
theorem oct_f : ∀ k, k < 1000 → (oct k).toNat % 2 ^ 63 < 2047 * 2 ^ 52 := by decide +kernel
theorem pw_z : ∀ k, k < 61 → fz (pw k) = 2 ^ k * fz (pw 0) := by decide +kernel
theorem pw_f : ∀ k, k < 61 → (pw k).toNat % 2 ^ 63 < 2047 * 2 ^ 52 := by decide +kernel
theorem pw_60 : fz (pw 60) = f1 := by decide +kernel
theorem pw_pos : 0 < fz (pw 0) := by decide +kernel
theorem fz_2 : fz 4611686018427387904 = 2 * f1 := by decide +kernel
theorem fF_2 : fF 4611686018427387904 := (FP.Core.fin_bits _).mpr (by decide +kernel)
theorem fz_05 : fz 4602678819172646912 * 2 = f1 := by decide +kernel
theorem fF_05 : fF 4602678819172646912 := (FP.Core.fin_bits _).mpr (by decide +kernel)
theorem fz_m60 : fz 13857013103465594880 = -60 * f1 := by decide +kernel
theorem fF_m60 : fF 13857013103465594880 := (FP.Core.fin_bits _).mpr (by decide +kernel)
theorem fz_100 : fz 4636737291354636288 = 100 * f1 := by decide +kernel
theorem fF_100 : fF 4636737291354636288 := (FP.Core.fin_bits _).mpr (by decide +kernel)
theorem fF_i (v : Int32) : fF (FP.i2d v) := FP.Core.i2d_fin v
theorem fz_i (v : Int32) : fz (FP.i2d v) = v.toInt * f1 := FP.Core.DInt_zval (FP.Core.i2d_int v)
theorem fz_n {n : Nat} (h : n < 2147483648) : fz (FP.i2d (nI n)) = (n : Int) * f1 := by rw [fz_i, nI_toInt (by omega)]
theorem fF_oct {k : Nat} (h : k < 1000) : fF (oct k) := (FP.Core.fin_bits _).mpr (oct_f k h)
theorem fF_pw {k : Nat} (h : k < 61) : fF (pw k) := (FP.Core.fin_bits _).mpr (pw_f k h)
