/-! BELIEFS, as both compute them -/
def ngI (k : Nat) : Int32 := nI 0 - nI k
theorem ng_int : ∀ k, k < 100 → (ngI k).toInt = -(k : Int) := by decide +kernel
def dbl (x : UInt64) : Nat → UInt64
  | 0 => x
  | k + 1 => FP.dmul (dbl x k) 4611686018427387904
def lgf (x : UInt64) : Nat → Bool := fun k => decide (f1 ≤ fz (dbl x k))
def lgK (x : UInt64) : Nat := nx (lgf x) 61 0
def lgV (x : UInt64) : UInt64 := FP.dadd (FP.i2d (ngI (lgK x))) (FP.dsub (dbl x (lgK x)) FP.dconst1)
def lgD (x : UInt64) : UInt64 := if fz x ≤ fz 4336966441157787648 then 13857013103465594880 else lgV x
theorem fz_t60 : fz 4336966441157787648 = fz (pw 0) := by decide +kernel
theorem fF_t60 : fF 4336966441157787648 := (FP.Core.fin_bits _).mpr (by decide +kernel)
theorem dbl_ok {x : UInt64} (fx : fF x) (h0 : fz (pw 0) < fz x) (h1 : fz x ≤ f1) : ∀ k, k ≤ 60 → (∀ j, j < k → fz (dbl x j) < f1) → fF (dbl x k) ∧ 0 < fz (dbl x k) ∧ fz (dbl x k) ≤ 2 * f1 ∧ fz (pw k) ≤ fz (dbl x k)
  | 0, _, _ => by
    have := pw_pos; have := f1_pos
    exact ⟨fx, by show 0 < fz x; omega, by show fz x ≤ _; omega, by show _ ≤ fz x; omega⟩
  | k + 1, hk, hj => by
    obtain ⟨g1, g2, g3, g4⟩ := dbl_ok fx h0 h1 k (by omega) (fun j h => hj j (by omega))
    have hlt := hj k (by omega)
    have hp := f1_pos
    have hn : fN (dbl x (k + 1)) := f_mul_n g1 fF_2
    have hi : fz (dbl x (k + 1)) ≤ 2 * f1 := by
      rw [← fz_2]
      refine f_mul_le g1 fF_2 fF_2.n ?_
      rw [fz_2, Int.mul_comm]
      exact Int.mul_le_mul_of_nonneg_left (Int.le_of_lt hlt) (by omega)
    have hz : fz (pw (k + 1)) = 2 * fz (pw k) := by
      rw [pw_z (k + 1) (by omega), pw_z k (by omega), Int.pow_succ, Int.mul_comm (2 ^ k) 2, Int.mul_assoc]
    have hlo : fz (pw (k + 1)) ≤ fz (dbl x (k + 1)) := by
      refine f_mul_ge g1 fF_2 (fF_pw (by omega)).n ?_
      rw [fz_2, hz, Int.mul_comm 2 (fz (pw k)), Int.mul_assoc]
      exact Int.mul_le_mul_of_nonneg_right g4 (by omega)
    have hpos : 0 < fz (pw (k + 1)) := by
      rw [pw_z (k + 1) (by omega)]
      exact Int.mul_pos (Int.pow_pos (by decide)) pw_pos
    exact ⟨f_fin hn fF_zero fF_2 (by rw [fz_zero]; omega) (by rw [fz_2]; exact hi), by omega, hi, hlo⟩
theorem lgK_ok {x : UInt64} (fx : fF x) (h0 : fz (pw 0) < fz x) (h1 : fz x ≤ f1) : lgK x ≤ 60 ∧ (∀ j, j < lgK x → fz (dbl x j) < f1) ∧ f1 ≤ fz (dbl x (lgK x)) := by
  obtain ⟨s1, s2, s3, s4⟩ := nx_spec (f := lgf x) (n := 61) _ 0 rfl (by omega)
  have hj : ∀ j, j < lgK x → fz (dbl x j) < f1 := by
    intro j hj
    have := s3 j (by omega) hj
    simp only [lgf, decide_eq_false_iff_not] at this
    omega
  have hk : lgK x ≤ 60 := by
    refine Nat.le_of_not_lt fun h => ?_
    have e := (dbl_ok fx h0 h1 60 (Nat.le_refl _) (fun j h' => hj j (by omega))).2.2.2
    have := hj 60 h
    rw [pw_60] at e
    omega
  refine ⟨hk, hj, ?_⟩
  have := s4 (by have : nx (lgf x) 61 0 ≤ 60 := hk; omega)
  simp only [lgf, decide_eq_true_eq] at this
  exact this
theorem lg_bd {x : UInt64} (hx : f01 x) : fF (lgD x) ∧ -60 * f1 ≤ fz (lgD x) ∧ fz (lgD x) ≤ 0 := by
  have hp := f1_pos
  simp only [lgD]
  split
  · rw [fz_m60]; exact ⟨fF_m60, Int.le_refl _, by omega⟩
  · rename_i h
    rw [fz_t60] at h
    obtain ⟨k1, k2, k3⟩ := lgK_ok hx.1 (by omega) hx.2.2
    obtain ⟨d1, d2, d3, d4⟩ := dbl_ok hx.1 (by omega) hx.2.2 _ k1 k2
    simp only [lgV]
    have e1 : fz (FP.i2d (ngI (lgK x))) = -((lgK x : Nat) : Int) * f1 := by rw [fz_i, ng_int _ (by omega)]
    have sn := f_sub_n d1 fF_one
    have s0 : 0 ≤ fz (FP.dsub (dbl x (lgK x)) FP.dconst1) := by
      rw [← fz_zero]; refine f_sub_ge d1 fF_one fF_zero.n ?_; rw [fz_zero, fz_one]; omega
    have s1 : fz (FP.dsub (dbl x (lgK x)) FP.dconst1) ≤ f1 := by
      have := f_sub_le d1 fF_one fF_one.n (by rw [fz_one]; omega)
      rw [fz_one] at this; exact this
    have sf := f_fin sn fF_zero fF_one (by rw [fz_zero]; exact s0) (by rw [fz_one]; exact s1)
    have hup : fz (FP.i2d (ngI (lgK x))) + fz (FP.dsub (dbl x (lgK x)) FP.dconst1) ≤ 0 := by
      rw [e1]
      rcases Nat.eq_zero_or_pos (lgK x) with h0 | h0
      · have : fz (FP.dsub (dbl x (lgK x)) FP.dconst1) ≤ 0 := by
          have := f_sub_le d1 fF_one fF_zero.n (by rw [fz_zero, fz_one, h0]; have := hx.2.2; show fz x - f1 ≤ 0; omega)
          rw [fz_zero] at this; exact this
        rw [h0] at this ⊢; simp; omega
      · have : (1 : Int) * f1 ≤ ((lgK x : Nat) : Int) * f1 := Int.mul_le_mul_of_nonneg_right (by omega) (by omega)
        rw [Int.neg_mul]; omega
    have hlo : -60 * f1 ≤ fz (FP.i2d (ngI (lgK x))) + fz (FP.dsub (dbl x (lgK x)) FP.dconst1) := by
      rw [e1]
      have : ((lgK x : Nat) : Int) * f1 ≤ 60 * f1 := Int.mul_le_mul_of_nonneg_right (by omega) (by omega)
      rw [Int.neg_mul, Int.neg_mul]; omega
    have r1 := f_add_le (fF_i _) sf fF_zero.n (by rw [fz_zero]; exact hup)
    have r2 := f_add_ge (fF_i _) sf fF_m60.n (by rw [fz_m60]; exact hlo)
    rw [fz_zero] at r1
    rw [fz_m60] at r2
    exact ⟨f_fin (f_add_n (fF_i _) sf) fF_m60 fF_zero (by rw [fz_m60]; exact r2) (by rw [fz_zero]; exact r1), r2, r1⟩
/-! EX -/
def hlv (x : UInt64) : Nat → UInt64
  | 0 => x
  | k + 1 => FP.ddiv (hlv x k) 4611686018427387904
def exK0 (v : UInt64) : Nat := (-(FP.d2i v).toInt).toNat
def exK (v : UInt64) : Nat := if fz v < fz (FP.i2d (ngI (exK0 v))) then exK0 v + 1 else exK0 v
def exX (v : UInt64) : UInt64 := FP.dadd FP.dconst1 (FP.dsub v (FP.i2d (ngI (exK v))))
def exD (v : UInt64) : UInt64 := if fz v ≤ fz 13857013103465594880 then FP.dconst0 else hlv (exX v) (exK v)
theorem ex_k0 {v : UInt64} (hn : fN v) (h0 : fz v ≤ 0) (h1 : -60 * f1 < fz v) : FP.d2i v = ngI (exK0 v) ∧ exK0 v < 60 ∧ fz v ≤ -((exK0 v : Nat) : Int) * f1 ∧ (-((exK0 v : Nat) : Int) - 1) * f1 < fz v := by
  obtain ⟨i, e, hi, l1, l2⟩ := FP.Core.cut_neg (s := FP.Core.sgn (FP.Core.val64 v)) (m := FP.Core.zmag FP.Core.b64 (FP.Core.val64 v)) (P := FP.Core.one64) (k := 60) FP.Core.one64_pos h0 (by
    have : -(((60 : Nat) : Int) * (FP.Core.one64 : Int)) = -60 * f1 := by rw [Int.neg_mul]; rfl
    rw [this]; exact h1)
  have hv := FP.Core.d2i_val hn
  rw [e] at hv
  have hv : (FP.d2i v).toInt = -(i : Int) := by
    show (FP.Core.d2i v).toInt = _
    rw [hv]; omega
  have hk : exK0 v = i := by simp only [exK0]; rw [hv]; omega
  rw [hk]
  refine ⟨Int32.toInt_inj.mp (by rw [hv, ng_int i (by omega)]), hi, l1, l2⟩
theorem ex_k {v : UInt64} (hn : fN v) (h0 : fz v ≤ 0) (h1 : -60 * f1 < fz v) : exK v ≤ 60 ∧ 0 ≤ fz v + ((exK v : Nat) : Int) * f1 ∧ fz v + ((exK v : Nat) : Int) * f1 ≤ f1 ∧ (exK v = 0 → fz v = 0) := by
  obtain ⟨e1, e2, e3, e4⟩ := ex_k0 hn h0 h1
  have hp := f1_pos
  simp only [exK]
  rw [fz_i, ng_int _ (by omega)]
  rw [Int.neg_mul] at e3 ⊢
  have e5 : (-((exK0 v : Nat) : Int) - 1) * f1 = -(((exK0 v : Nat) : Int) * f1) - f1 := by rw [Int.sub_mul, Int.neg_mul, Int.one_mul]
  rw [e5] at e4
  split
  · have : ((exK0 v + 1 : Nat) : Int) * f1 = ((exK0 v : Nat) : Int) * f1 + f1 := by rw [Int.natCast_add, Int.add_mul]; simp
    rw [this]
    exact ⟨by omega, by omega, by omega, fun h => by omega⟩
  · refine ⟨by omega, by omega, by omega, fun h => ?_⟩
    rw [h] at e3
    simp at e3
    rename_i h6
    rw [h] at h6
    simp at h6
    omega
theorem ex_x {v : UInt64} (hf : fF v) (h0 : fz v ≤ 0) (h1 : -60 * f1 < fz v) : fF (FP.dsub v (FP.i2d (ngI (exK v)))) ∧ fF (exX v) ∧ f1 ≤ fz (exX v) ∧ fz (exX v) ≤ 2 * f1 ∧ (exK v = 0 → fz (exX v) ≤ f1) := by
  obtain ⟨e1, e2, e3, e4⟩ := ex_k hf.n h0 h1
  have hp := f1_pos
  have ei : fz (FP.i2d (ngI (exK v))) = -(((exK v : Nat) : Int) * f1) := by rw [fz_i, ng_int _ (by omega), Int.neg_mul]
  have s0 := f_sub_ge hf (fF_i (ngI (exK v))) fF_zero.n (by rw [fz_zero, ei]; omega)
  have s1 := f_sub_le hf (fF_i (ngI (exK v))) fF_one.n (by rw [fz_one, ei]; omega)
  have sf := f_fin (f_sub_n hf (fF_i (ngI (exK v)))) fF_zero fF_one s0 s1
  rw [fz_zero] at s0
  rw [fz_one] at s1
  have r0 := f_add_ge fF_one sf fF_one.n (by rw [fz_one]; omega)
  have r1 := f_add_le fF_one sf fF_2.n (by rw [fz_one, fz_2]; omega)
  refine ⟨sf, f_fin (f_add_n fF_one sf) fF_one fF_2 r0 r1, by rw [fz_one] at r0; exact r0, by rw [fz_2] at r1; exact r1, fun hk => ?_⟩
  have hz := e4 hk
  have s2 := f_sub_le hf (fF_i (ngI (exK v))) fF_zero.n (by rw [fz_zero, ei, hk, hz]; simp)
  rw [fz_zero] at s2
  have := f_add_le fF_one sf fF_one.n (by rw [fz_one]; omega)
  rw [fz_one] at this
  exact this
theorem hlv_ok {x : UInt64} (hf : fF x) (h0 : 0 ≤ fz x) (h1 : fz x ≤ 2 * f1) : ∀ k, fF (hlv x k) ∧ 0 ≤ fz (hlv x k) ∧ fz (hlv x k) ≤ 2 * f1 ∧ (0 < k → f01 (hlv x k))
  | 0 => ⟨hf, h0, h1, fun h => absurd h (by decide)⟩
  | k + 1 => by
    obtain ⟨g1, g2, g3, g4⟩ := hlv_ok hf h0 h1 k
    have hp := f1_pos
    have h : f01 (hlv x (k + 1)) := f01_div g1 fF_2 g2 (by rw [fz_2]; omega) (by rw [fz_2]; exact g3)
    exact ⟨h.1, h.2.1, by have := h.2.2; omega, fun _ => h⟩
theorem ex_bd {v : UInt64} (hn : fN v) (h0 : fz v ≤ 0) : f01 (exD v) := by
  simp only [exD]
  split
  · exact f01_zero
  · rename_i h
    rw [fz_m60] at h
    have hf : fF v := f_fin hn fF_m60 fF_zero (by rw [fz_m60]; omega) (by rw [fz_zero]; exact h0)
    have hp := f1_pos
    obtain ⟨e1, e2, e3, e4, e5⟩ := ex_x hf h0 (by omega)
    obtain ⟨g1, g2, g3, g4⟩ := hlv_ok e2 (by omega) e4 (exK v)
    rcases Nat.eq_zero_or_pos (exK v) with hk | hk
    · rw [hk]; exact ⟨e2, by show 0 ≤ fz (exX v); omega, e5 hk⟩
    · exact g4 hk
/-! the belief of a plain node -/
def cfT (T : Qg) (D : Dg) (t : Nat) : Nat := ps (fun e => cn (hitB T D t e) (dl D e)) (dn D)
def tfT (T : Qg) (D : Dg) (t d : Nat) : Nat := cn (hitB T D t d) (dl D d)
def cD (n : Nat) : UInt64 := if n = 0 then 4602678819172646912 else FP.i2d (nI n)
def cmD (T : Qg) (D : Dg) (t : Nat) : UInt64 := FP.ddiv (cD (cfT T D t)) (FP.i2d (nI (dall D)))
def ptD (S : Sg) (T : Qg) (D : Dg) (t : Nat) : UInt64 := FP.dmul S.2 (cmD T D t)
def nuD (S : Sg) (T : Qg) (D : Dg) (t d : Nat) : UInt64 := FP.dadd (FP.i2d (nI (tfT T D t d))) (ptD S T D t)
def deD (S : Sg) (D : Dg) (d : Nat) : UInt64 := FP.dadd (FP.i2d (nI (dl D d))) S.2
def rtD (T : Qg) (D : Dg) (t d : Nat) : UInt64 := FP.ddiv (FP.i2d (nI (tfT T D t d))) (FP.i2d (nI (dl D d)))
def plD (S : Sg) (T : Qg) (D : Dg) (t d : Nat) : UInt64 := if S.1 = 0 then FP.ddiv (nuD S T D t d) (deD S D d) else FP.dadd (FP.dmul (FP.dsub FP.dconst1 S.2) (rtD T D t d)) (ptD S T D t)
theorem cf_le (T : Qg) (D : Dg) (t : Nat) : cfT T D t ≤ dall D := ps_mono _ (fun i _ => cn_le _ _)
theorem all_le {D : Dg} (wd : wD D) : dall D ≤ 288 := by
  have := ps_le (f := dl D) (b := 24) (dn D) (fun i _ => wd.2.1 i)
  have := wd.1
  show ps (dl D) (dn D) ≤ 288
  omega
theorem all_pos {D : Dg} {d : Nat} (hd : d < dn D) (hl : 0 < dl D d) : 0 < dall D := Nat.lt_of_lt_of_le hl (ps_at (f := dl D) (dn D) d hd)
theorem cm_ok {T : Qg} {D : Dg} {t : Nat} (wd : wD D) (ha : 0 < dall D) : fF (cD (cfT T D t)) ∧ f01 (cmD T D t) ∧ 0 < fz (FP.i2d (nI (dall D))) := by
  have h1 := cf_le T D t
  have h2 := all_le wd
  have hp := f1_pos
  have hA : fz (FP.i2d (nI (dall D))) = ((dall D : Nat) : Int) * f1 := fz_n (by omega)
  have hA1 : (1 : Int) * f1 ≤ ((dall D : Nat) : Int) * f1 := Int.mul_le_mul_of_nonneg_right (by omega) (by omega)
  have hc : fF (cD (cfT T D t)) ∧ 0 ≤ fz (cD (cfT T D t)) ∧ fz (cD (cfT T D t)) ≤ fz (FP.i2d (nI (dall D))) := by
    simp only [cD]
    rw [hA]
    split
    · have := fz_05; exact ⟨fF_05, by omega, by omega⟩
    · rw [fz_n (by omega)]
      exact ⟨fF_i _, Int.mul_nonneg (by omega) (by omega), Int.mul_le_mul_of_nonneg_right (by omega) (by omega)⟩
  exact ⟨hc.1, f01_div hc.1 (fF_i _) hc.2.1 (by rw [hA]; omega) hc.2.2, by rw [hA]; omega⟩
theorem mu_ok {S : Sg} (ws : wS S) : fF S.2 ∧ 0 < fz S.2 ∧ fz S.2 ≤ 100 * f1 ∧ (S.1 ≠ 0 → fz S.2 ≤ f1 ∧ fz (FP.dsub FP.dconst1 S.2) ≤ f1 - fz S.2) := by
  obtain ⟨h1, k, h2, h3, h4, h5⟩ := ws
  have e := oct_z k (by omega)
  have hp := f1_pos
  have hS : S.2 = oct k := h5
  rw [hS]
  have hk : (1 : Int) * f1 ≤ (k : Int) * f1 := Int.mul_le_mul_of_nonneg_right (by omega) (by omega)
  have hk2 : (k : Int) * f1 ≤ 800 * f1 := Int.mul_le_mul_of_nonneg_right (by omega) (by omega)
  refine ⟨fF_oct (by omega), by omega, by omega, fun h => ?_⟩
  have hk8 := h4 (by omega)
  have hk3 : (k : Int) * f1 ≤ 8 * f1 := Int.mul_le_mul_of_nonneg_right (by omega) (by omega)
  refine ⟨by omega, ?_⟩
  have e8 := oct_z (8 - k) (by omega)
  have e9 : ((8 - k : Nat) : Int) * f1 = 8 * f1 - (k : Int) * f1 := by rw [Int.natCast_sub hk8, Int.sub_mul]; rfl
  have := f_sub_le fF_one (fF_oct (k := k) (by omega)) (fF_oct (k := 8 - k) (by omega)).n (by rw [fz_one]; omega)
  omega
theorem pt_ok {S : Sg} {T : Qg} {D : Dg} {t : Nat} (ws : wS S) (wd : wD D) (ha : 0 < dall D) : fF (ptD S T D t) ∧ 0 ≤ fz (ptD S T D t) ∧ fz (ptD S T D t) ≤ fz S.2 := by
  obtain ⟨m1, m2, m3, m4⟩ := mu_ok ws
  obtain ⟨c1, c2, c3⟩ := cm_ok (T := T) (t := t) wd ha
  have h0 : 0 ≤ fz (ptD S T D t) := by rw [← fz_zero]; exact f_mul_ge m1 c2.1 fF_zero.n (by rw [fz_zero, Int.zero_mul]; exact Int.mul_nonneg (by omega) c2.2.1)
  have h1 : fz (ptD S T D t) ≤ fz S.2 := f_mul_le m1 c2.1 m1.n (Int.mul_le_mul_of_nonneg_left c2.2.2 (by omega))
  exact ⟨f_fin (f_mul_n m1 c2.1) fF_zero m1 (by rw [fz_zero]; exact h0) h1, h0, h1⟩
theorem tf_le (T : Qg) (D : Dg) (t d : Nat) : tfT T D t d ≤ dl D d := cn_le _ _
theorem nude_ok {S : Sg} {T : Qg} {D : Dg} {t d : Nat} (ws : wS S) (wd : wD D) (hd : d < dn D) (hl : 0 < dl D d) : fF (nuD S T D t d) ∧ fF (deD S D d) ∧ 0 ≤ fz (nuD S T D t d) ∧ 0 < fz (deD S D d) ∧ fz (nuD S T D t d) ≤ fz (deD S D d) := by
  obtain ⟨m1, m2, m3, m4⟩ := mu_ok ws
  obtain ⟨p1, p2, p3⟩ := pt_ok (T := T) (t := t) ws wd (all_pos hd hl)
  have hp := f1_pos
  have hll := wd.2.1 d
  have ht := tf_le T D t d
  have et : fz (FP.i2d (nI (tfT T D t d))) = ((tfT T D t d : Nat) : Int) * f1 := fz_n (by omega)
  have el : fz (FP.i2d (nI (dl D d))) = ((dl D d : Nat) : Int) * f1 := fz_n (by omega)
  have q1 : 0 ≤ ((tfT T D t d : Nat) : Int) * f1 := Int.mul_nonneg (by omega) (by omega)
  have q2 : ((tfT T D t d : Nat) : Int) * f1 ≤ ((dl D d : Nat) : Int) * f1 := Int.mul_le_mul_of_nonneg_right (by omega) (by omega)
  have q3 : ((dl D d : Nat) : Int) * f1 ≤ 24 * f1 := Int.mul_le_mul_of_nonneg_right (by omega) (by omega)
  have o9 := oct_z 999 (by omega)
  have hn : fF (nuD S T D t d) := f_fin (f_add_n (fF_i _) p1) fF_zero (fF_oct (k := 999) (by omega)) (f_add_ge (fF_i _) p1 fF_zero.n (by rw [fz_zero, et]; omega)) (f_add_le (fF_i _) p1 (fF_oct (k := 999) (by omega)).n (by rw [et]; omega))
  have hde : fF (deD S D d) := f_fin (f_add_n (fF_i _) m1) fF_zero (fF_oct (k := 999) (by omega)) (f_add_ge (fF_i _) m1 fF_zero.n (by rw [fz_zero, el]; omega)) (f_add_le (fF_i _) m1 (fF_oct (k := 999) (by omega)).n (by rw [el]; omega))
  have g1 : 0 ≤ fz (nuD S T D t d) := by rw [← fz_zero]; exact f_add_ge (fF_i _) p1 fF_zero.n (by rw [fz_zero, et]; omega)
  have g2 : fz S.2 ≤ fz (deD S D d) := f_add_ge (fF_i _) m1 m1.n (by rw [el]; omega)
  exact ⟨hn, hde, g1, by omega, f_add_mono (fF_i _) p1 (fF_i _) m1 hn hde (by rw [et]; omega) (by rw [et, el]; omega)⟩
theorem rt_ok {T : Qg} {D : Dg} {t d : Nat} (wd : wD D) (hl : 0 < dl D d) : f01 (rtD T D t d) ∧ 0 < fz (FP.i2d (nI (dl D d))) := by
  have hp := f1_pos
  have hll := wd.2.1 d
  have ht := tf_le T D t d
  have et : fz (FP.i2d (nI (tfT T D t d))) = ((tfT T D t d : Nat) : Int) * f1 := fz_n (by omega)
  have el : fz (FP.i2d (nI (dl D d))) = ((dl D d : Nat) : Int) * f1 := fz_n (by omega)
  have q1 : 0 ≤ ((tfT T D t d : Nat) : Int) * f1 := Int.mul_nonneg (by omega) (by omega)
  have q2 : ((tfT T D t d : Nat) : Int) * f1 ≤ ((dl D d : Nat) : Int) * f1 := Int.mul_le_mul_of_nonneg_right (by omega) (by omega)
  have q3 : (1 : Int) * f1 ≤ ((dl D d : Nat) : Int) * f1 := Int.mul_le_mul_of_nonneg_right (by omega) (by omega)
  exact ⟨f01_div (fF_i _) (fF_i _) (by rw [et]; exact q1) (by rw [el]; omega) (by rw [et, el]; exact q2), by rw [el]; omega⟩
theorem mx_ok {S : Sg} {T : Qg} {D : Dg} {t d : Nat} (ws : wS S) (wd : wD D) (hd : d < dn D) (hl : 0 < dl D d) (hs : S.1 ≠ 0) : f01 (FP.dsub FP.dconst1 S.2) ∧ f01 (FP.dmul (FP.dsub FP.dconst1 S.2) (rtD T D t d)) ∧ f01 (FP.dadd (FP.dmul (FP.dsub FP.dconst1 S.2) (rtD T D t d)) (ptD S T D t)) := by
  obtain ⟨m1, m2, m3, m4⟩ := mu_ok ws
  obtain ⟨p1, p2, p3⟩ := pt_ok (T := T) (t := t) ws wd (all_pos hd hl)
  obtain ⟨r1, r2⟩ := rt_ok (T := T) (t := t) wd hl
  obtain ⟨n1, n2⟩ := m4 hs
  have hp := f1_pos
  have a1 : f01 (FP.dsub FP.dconst1 S.2) := f01_sub ⟨m1, by omega, n1⟩
  have a2 := f01_mul a1 r1
  have a3 : fz (FP.dmul (FP.dsub FP.dconst1 S.2) (rtD T D t d)) ≤ fz (FP.dsub FP.dconst1 S.2) := f_mul_le a1.1 r1.1 a1.1.n (Int.mul_le_mul_of_nonneg_left r1.2.2 a1.2.1)
  refine ⟨a1, a2, f01_of (f_add_n a2.1 p1) ?_ ?_⟩
  · rw [← fz_zero]; exact f_add_ge a2.1 p1 fF_zero.n (by rw [fz_zero]; have := a2.2.1; omega)
  · rw [← fz_one]; exact f_add_le a2.1 p1 fF_one.n (by rw [fz_one]; omega)
theorem pl_01 {S : Sg} {T : Qg} {D : Dg} {t d : Nat} (ws : wS S) (wd : wD D) (hd : d < dn D) (hl : 0 < dl D d) : f01 (plD S T D t d) := by
  simp only [plD]
  split
  · obtain ⟨h1, h2, h3, h4, h5⟩ := nude_ok (T := T) (t := t) ws wd hd hl
    exact f01_div h1 h2 h3 h4 h5
  · exact (mx_ok ws wd hd hl (by assumption)).2.2
