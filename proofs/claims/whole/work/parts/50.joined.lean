/-! the belief of an operator, out of those of its parts -/
def pdA (b : Nat → UInt64) : Nat → UInt64
  | 0 => FP.dconst1
  | i + 1 => FP.dmul (pdA b i) (b i)
def pdO (b : Nat → UInt64) : Nat → UInt64
  | 0 => FP.dconst1
  | i + 1 => FP.dmul (pdO b i) (FP.dsub FP.dconst1 (b i))
def mxB (b : Nat → UInt64) : Nat → UInt64
  | 0 => b 0
  | i + 1 => if fz (mxB b i) < fz (b i) then b i else mxB b i
def sL (b w : Nat → UInt64) : Nat → UInt64
  | 0 => FP.dconst0
  | i + 1 => FP.dadd (sL b w i) (FP.dmul (w i) (lgD (b i)))
def sB (b w : Nat → UInt64) : Nat → UInt64
  | 0 => FP.dconst0
  | i + 1 => FP.dadd (sB b w i) (FP.dmul (w i) (b i))
def sW (w : Nat → UInt64) : Nat → UInt64
  | 0 => FP.dconst0
  | i + 1 => FP.dadd (sW w i) (w i)
theorem mxB_1 (b : Nat → UInt64) : mxB b 1 = b 0 := by
  show (if fz (b 0) < fz (b 0) then b 0 else b 0) = b 0
  split <;> rfl
def bOk (b : Nat → UInt64) (n : Nat) : Prop := ∀ i, i < n → f01 (b i)
def wOk (w : Nat → UInt64) (n : Nat) : Prop := ∀ i, i < n → wgood (w i)
theorem pdA_01 {b : Nat → UInt64} {n : Nat} (h : bOk b n) : ∀ i, i ≤ n → f01 (pdA b i)
  | 0, _ => f01_one
  | i + 1, hi => f01_mul (pdA_01 h i (by omega)) (h i (by omega))
theorem pdO_01 {b : Nat → UInt64} {n : Nat} (h : bOk b n) : ∀ i, i ≤ n → f01 (pdO b i)
  | 0, _ => f01_one
  | i + 1, hi => f01_mul (pdO_01 h i (by omega)) (f01_sub (h i (by omega)))
theorem mxB_01 {b : Nat → UInt64} {n : Nat} (h : bOk b n) (h0 : 0 < n) : ∀ i, i ≤ n → f01 (mxB b i)
  | 0, _ => h 0 h0
  | i + 1, hi => by
    show f01 (if _ then _ else _)
    split
    · exact h i (by omega)
    · exact mxB_01 h h0 i (by omega)
theorem i2d_h (n : Nat) (h : n < 2147483648) : fF (FP.i2d (nI n)) ∧ fz (FP.i2d (nI n)) = (n : Int) * f1 := ⟨fF_i _, fz_n h⟩
theorem sW_ok {w : Nat → UInt64} {n : Nat} (h : wOk w n) : ∀ i, i ≤ n → i ≤ 4 → fF (sW w i) ∧ 0 ≤ fz (sW w i) ∧ fz (sW w i) ≤ ((100 * i : Nat) : Int) * f1 ∧ (0 < i → 0 < fz (sW w i))
  | 0, _, _ => by
    have h0 : fz (sW w 0) = 0 := fz_zero
    exact ⟨fF_zero, by omega, by rw [h0]; simp, fun h => by omega⟩
  | i + 1, hi, h4 => by
    obtain ⟨g1, g2, g3, g4⟩ := sW_ok h i (by omega) (by omega)
    obtain ⟨w1, w2, w3⟩ := h i (by omega)
    have hp := f1_pos
    rw [show fz d100 = 100 * f1 from fz_100] at w3
    have hc := i2d_h (100 * (i + 1)) (by omega)
    have e : ((100 * (i + 1) : Nat) : Int) * f1 = ((100 * i : Nat) : Int) * f1 + 100 * f1 := by rw [show 100 * (i + 1) = 100 * i + 100 by omega, Int.natCast_add, Int.add_mul]; rfl
    have r1 := f_add_le g1 w1 hc.1.n (by rw [hc.2, e]; omega)
    have r2 := f_add_ge g1 w1 fF_zero.n (by rw [fz_zero]; omega)
    have r3 := f_add_ge g1 w1 w1.n (by omega)
    refine ⟨f_fin (f_add_n g1 w1) fF_zero hc.1 r2 r1, by rw [fz_zero] at r2; exact r2, by rw [hc.2] at r1; exact r1, fun _ => ?_⟩
    have r3' : fz (w i) ≤ fz (sW w (i + 1)) := r3
    omega
theorem wb_ok {b w : UInt64} (hb : f01 b) (hw : wgood w) : fF (FP.dmul w b) ∧ 0 ≤ fz (FP.dmul w b) ∧ fz (FP.dmul w b) ≤ fz w := by
  have h0 : 0 ≤ fz (FP.dmul w b) := by rw [← fz_zero]; exact f_mul_ge hw.1 hb.1 fF_zero.n (by rw [fz_zero, Int.zero_mul]; exact Int.mul_nonneg (Int.le_of_lt hw.2.1) hb.2.1)
  have h1 : fz (FP.dmul w b) ≤ fz w := f_mul_le hw.1 hb.1 hw.1.n (Int.mul_le_mul_of_nonneg_left hb.2.2 (Int.le_of_lt hw.2.1))
  exact ⟨f_fin (f_mul_n hw.1 hb.1) fF_zero hw.1 (by rw [fz_zero]; exact h0) h1, h0, h1⟩
theorem sB_ok {b w : Nat → UInt64} {n : Nat} (hb : bOk b n) (hw : wOk w n) : ∀ i, i ≤ n → i ≤ 4 → fF (sB b w i) ∧ 0 ≤ fz (sB b w i) ∧ fz (sB b w i) ≤ fz (sW w i)
  | 0, _, _ => ⟨fF_zero, by show 0 ≤ fz FP.dconst0; rw [fz_zero]; exact Int.le_refl _, Int.le_refl _⟩
  | i + 1, hi, h4 => by
    obtain ⟨g1, g2, g3⟩ := sB_ok hb hw i (by omega) (by omega)
    obtain ⟨s1, s2, s3, s4⟩ := sW_ok hw i (by omega) (by omega)
    obtain ⟨t1, t2, t3, t4⟩ := sW_ok hw (i + 1) hi h4
    obtain ⟨m1, m2, m3⟩ := wb_ok (hb i (by omega)) (hw i (by omega))
    obtain ⟨w1, w2, w3⟩ := hw i (by omega)
    have hp := f1_pos
    rw [show fz d100 = 100 * f1 from fz_100] at w3
    have hc := i2d_h (100 * (i + 1)) (by omega)
    have e : ((100 * (i + 1) : Nat) : Int) * f1 = ((100 * i : Nat) : Int) * f1 + 100 * f1 := by rw [show 100 * (i + 1) = 100 * i + 100 by omega, Int.natCast_add, Int.add_mul]; rfl
    have r1 := f_add_le g1 m1 hc.1.n (by rw [hc.2, e]; omega)
    have r2 := f_add_ge g1 m1 fF_zero.n (by rw [fz_zero]; omega)
    have hf := f_fin (f_add_n g1 m1) fF_zero hc.1 r2 r1
    exact ⟨hf, by rw [fz_zero] at r2; exact r2, f_add_mono g1 m1 s1 w1 hf t1 (by omega) (by omega)⟩
def nn6 (k : Nat) : Int32 := nI 0 - nI (6000 * k)
theorem nn6_z : ∀ k, k < 5 → (nn6 k).toInt = -((6000 * k : Nat) : Int) := by decide +kernel
theorem wl_ok {l w : UInt64} (hl : fF l ∧ -60 * f1 ≤ fz l ∧ fz l ≤ 0) (hw : wgood w) : fF (FP.dmul w l) ∧ -6000 * f1 ≤ fz (FP.dmul w l) ∧ fz (FP.dmul w l) ≤ 0 := by
  obtain ⟨l1, l2, l3⟩ := hl
  obtain ⟨w1, w2, w3⟩ := hw
  have hp := f1_pos
  rw [show fz d100 = 100 * f1 from fz_100] at w3
  have e6 : fz (FP.i2d (nn6 1)) = -6000 * f1 := by rw [fz_i, nn6_z 1 (by decide)]; rfl
  have h1 : fz (FP.dmul w l) ≤ 0 := by
    have := f_mul_le w1 l1 fF_zero.n (by rw [fz_zero, Int.zero_mul]; exact Int.mul_nonpos_of_nonneg_of_nonpos (Int.le_of_lt w2) l3)
    rw [fz_zero] at this; exact this
  have h2 := f_mul_ge w1 l1 (fF_i (nn6 1)).n (by
    rw [e6]
    have a1 : fz w * (-60 * f1) ≤ fz w * fz l := Int.mul_le_mul_of_nonneg_left l2 (Int.le_of_lt w2)
    have a2 : (100 * f1) * (-60 * f1) ≤ fz w * (-60 * f1) := by
      have : fz w * (60 * f1) ≤ (100 * f1) * (60 * f1) := Int.mul_le_mul_of_nonneg_right w3 (by omega)
      rw [Int.neg_mul, Int.mul_neg, Int.mul_neg]; omega
    have a3 : (100 * f1) * (-60 * f1) = -6000 * f1 * f1 := by
      rw [Int.neg_mul, Int.mul_neg, Int.mul_assoc 100, Int.mul_left_comm f1 60 f1, ← Int.mul_assoc 100 60, Int.neg_mul, Int.neg_mul, Int.mul_assoc 6000]; rfl
    omega)
  refine ⟨f_fin (f_mul_n w1 l1) (fF_i (nn6 1)) fF_zero h2 (by rw [fz_zero]; exact h1), by rw [e6] at h2; exact h2, h1⟩
theorem sL_ok {b w : Nat → UInt64} {n : Nat} (hb : bOk b n) (hw : wOk w n) : ∀ i, i ≤ n → i ≤ 4 → fF (sL b w i) ∧ -((6000 * i : Nat) : Int) * f1 ≤ fz (sL b w i) ∧ fz (sL b w i) ≤ 0
  | 0, _, _ => by
    have h0 : fz (sL b w 0) = 0 := fz_zero
    exact ⟨fF_zero, by rw [h0]; simp, by omega⟩
  | i + 1, hi, h4 => by
    obtain ⟨g1, g2, g3⟩ := sL_ok hb hw i (by omega) (by omega)
    obtain ⟨m1, m2, m3⟩ := wl_ok (lg_bd (hb i (by omega))) (hw i (by omega))
    have hp := f1_pos
    have e6 : fz (FP.i2d (nn6 (i + 1))) = -((6000 * (i + 1) : Nat) : Int) * f1 := by rw [fz_i, nn6_z (i + 1) (by omega)]
    have e : -((6000 * (i + 1) : Nat) : Int) * f1 = -((6000 * i : Nat) : Int) * f1 + -6000 * f1 := by rw [show 6000 * (i + 1) = 6000 * i + 6000 by omega, Int.natCast_add, Int.neg_add, Int.add_mul]; rfl
    have r1 := f_add_le g1 m1 fF_zero.n (by rw [fz_zero]; omega)
    have r2 := f_add_ge g1 m1 (fF_i (nn6 (i + 1))).n (by rw [e6, e]; omega)
    exact ⟨f_fin (f_add_n g1 m1) (fF_i (nn6 (i + 1))) fF_zero r2 r1, by rw [e6] at r2; exact r2, by rw [fz_zero] at r1; exact r1⟩
def mnD (b w : Nat → UInt64) (n : Nat) : UInt64 := FP.ddiv (sL b w n) (sW w n)
def poD (b w : Nat → UInt64) (n : Nat) : UInt64 := FP.ddiv (sB b w n) (sW w n)
theorem mn_ok {b w : Nat → UInt64} {n : Nat} (hb : bOk b n) (hw : wOk w n) (h0 : 0 < n) (h4 : n ≤ 4) : fN (mnD b w n) ∧ fz (mnD b w n) ≤ 0 := by
  obtain ⟨s1, s2, s3, s4⟩ := sW_ok hw n (Nat.le_refl _) h4
  obtain ⟨l1, l2, l3⟩ := sL_ok hb hw n (Nat.le_refl _) h4
  exact ⟨f_div_n l1 s1 (s4 h0), f_div_neg l1 s1 l3 (s4 h0)⟩
theorem po_ok {b w : Nat → UInt64} {n : Nat} (hb : bOk b n) (hw : wOk w n) (h0 : 0 < n) (h4 : n ≤ 4) : f01 (poD b w n) := by
  obtain ⟨s1, s2, s3, s4⟩ := sW_ok hw n (Nat.le_refl _) h4
  obtain ⟨l1, l2, l3⟩ := sB_ok hb hw n (Nat.le_refl _) h4
  exact f01_div l1 s1 l2 (s4 h0) l3
def jnD (k n : Nat) (b w : Nat → UInt64) : UInt64 := if k = 5 then pdA b n else if k = 6 then FP.dsub FP.dconst1 (pdO b n) else if k = 7 then mxB b n else if k = 8 then exD (mnD b w n) else if k = 9 then poD b w n else if k = 10 then FP.dsub FP.dconst1 (b 0) else b 1
theorem jn_01 {k n : Nat} {b w : Nat → UInt64} (hb : bOk b n) (hw : wOk w n) (h0 : 0 < n) (h4 : n ≤ 4) (h5 : 5 ≤ k) (h11 : 10 < k → 1 < n) : f01 (jnD k n b w) := by
  simp only [jnD]
  split
  · exact pdA_01 hb n (Nat.le_refl _)
  split
  · exact f01_sub (pdO_01 hb n (Nat.le_refl _))
  split
  · exact mxB_01 hb h0 n (Nat.le_refl _)
  split
  · exact ex_bd (mn_ok hb hw h0 h4).1 (mn_ok hb hw h0 h4).2
  split
  · exact po_ok hb hw h0 h4
  split
  · exact f01_sub (hb 0 h0)
  · exact hb 1 (h11 (by omega))
theorem jn5 (n : Nat) (b w : Nat → UInt64) : jnD 5 n b w = pdA b n := rfl
theorem jn6 (n : Nat) (b w : Nat → UInt64) : jnD 6 n b w = FP.dsub FP.dconst1 (pdO b n) := rfl
theorem jn7 (n : Nat) (b w : Nat → UInt64) : jnD 7 n b w = mxB b n := rfl
theorem jn8 (n : Nat) (b w : Nat → UInt64) : jnD 8 n b w = exD (mnD b w n) := by unfold jnD; rw [if_neg (by decide), if_neg (by decide), if_neg (by decide), if_pos rfl]
theorem jn9 (n : Nat) (b w : Nat → UInt64) : jnD 9 n b w = poD b w n := rfl
theorem jn10 (n : Nat) (b w : Nat → UInt64) : jnD 10 n b w = FP.dsub FP.dconst1 (b 0) := rfl
theorem jn11 (n : Nat) (b w : Nat → UInt64) : jnD 11 n b w = b 1 := rfl
/-! all beliefs of a document, parts before their parents -/
def stD (S : Sg) (T : Qg) (D : Dg) (d : Nat) (B : Nat → UInt64) (t : Nat) : UInt64 := if qk T t ≤ 4 then plD S T D t d else jnD (qk T t) (prt T t) (fun i => B (pa T t i)) (fun i => qw T (pa T t i))
def bl (S : Sg) (T : Qg) (D : Dg) (d : Nat) : Nat → Nat → UInt64
  | 0 => fun _ => 0
  | k + 1 => fun i => if i = qn T - 1 - k then stD S T D d (bl S T D d k) i else bl S T D d k i
theorem bl_here {S : Sg} {T : Qg} {D : Dg} {d k : Nat} : bl S T D d (k + 1) (qn T - 1 - k) = stD S T D d (bl S T D d k) (qn T - 1 - k) := by
  show (if _ then _ else _) = _
  rw [if_pos rfl]
theorem bl_off {S : Sg} {T : Qg} {D : Dg} {d k i : Nat} (h : i ≠ qn T - 1 - k) : bl S T D d (k + 1) i = bl S T D d k i := by
  show (if _ then _ else _) = _
  rw [if_neg h]
theorem prt_pos {T : Qg} {t : Nat} (h : tgood T t) (h5 : 5 ≤ qk T t) : 0 < prt T t ∧ (10 < qk T t → prt T t = 2) := by
  obtain ⟨h1, h2, h3, h4, h6, h7⟩ := h
  constructor
  · rcases Nat.lt_or_ge 9 (qk T t) with h9 | h9
    · rcases Nat.lt_or_ge 10 (qk T t) with h10 | h10
      · rw [prt_2 (by omega)]; omega
      · rw [prt_1 (by omega)]; omega
    · rw [prt_num h5 h9]; have := h4 h5 h9; omega
  · intro h10; exact prt_2 (by omega)
theorem bl_01 {S : Sg} {T : Qg} {D : Dg} {d : Nat} (ws : wS S) (wd : wD D) (wq : wQ T) (h0 : op T (qn T) = 0) (hd : d < dn D) (hl : 0 < dl D d) : ∀ k, k ≤ qn T → ∀ i, qn T - k ≤ i → i < qn T → f01 (bl S T D d k i)
  | 0, _, i, h1, h2 => by omega
  | k + 1, hk, i, h1, h2 => by
    by_cases e : i = qn T - 1 - k
    · subst e
      rw [bl_here]
      simp only [stD]
      have hg := wq.2.1 (qn T - 1 - k) h2
      split
      · exact pl_01 ws wd hd hl
      · rename_i h5
        have hp := prt_pos hg (by omega)
        refine jn_01 (fun j hj => ?_) (fun j hj => ?_) hp.1 (prt_le hg) (by omega) (fun h => by rw [hp.2 h]; omega)
        · have := pa_lt wq h0 h2 hj
          exact bl_01 ws wd wq h0 hd hl k (by omega) _ (by omega) this.2
        · exact (wq.2.1 _ (pa_lt wq h0 h2 hj).2).2.2.2.2.2
    · rw [bl_off e]
      exact bl_01 ws wd wq h0 hd hl k (by omega) i (by omega) h2
