/-! MODELS: the worth of words, and the greatest of them -/
def rtW (D : Dg) (R : Rg) (w i : Nat) : UInt64 := FP.ddiv (FP.i2d (nI (cn (fw D (rd R i) w) (dl D (rd R i))))) (FP.i2d (nI (dl D (rd R i))))
def tmD (D : Dg) (R : Rg) (w i : Nat) : UInt64 := FP.dmul (rb R i) (rtW D R w i)
def woD (D : Dg) (R : Rg) (w : Nat) : Nat → UInt64
  | 0 => FP.dconst0
  | i + 1 => FP.dadd (woD D R w i) (tmD D R w i)
def wv (D : Dg) (R : Rg) (w : Nat) : UInt64 := woD D R w (rn R)
theorem rtW_ok {D : Dg} {R : Rg} (wd : wD D) (wr : wR D R) (w : Nat) {i : Nat} (hi : i < rn R) : f01 (rtW D R w i) ∧ 0 < fz (FP.i2d (nI (dl D (rd R i)))) := by
  obtain ⟨h1, h2, h3⟩ := wr.2.2 i hi
  have hp := f1_pos
  have hll := wd.2.1 (rd R i)
  have ht := cn_le (fw D (rd R i) w) (dl D (rd R i))
  have et : fz (FP.i2d (nI (cn (fw D (rd R i) w) (dl D (rd R i))))) = ((cn (fw D (rd R i) w) (dl D (rd R i)) : Nat) : Int) * f1 := fz_n (by omega)
  have el : fz (FP.i2d (nI (dl D (rd R i)))) = ((dl D (rd R i) : Nat) : Int) * f1 := fz_n (by omega)
  have q1 : 0 ≤ ((cn (fw D (rd R i) w) (dl D (rd R i)) : Nat) : Int) * f1 := Int.mul_nonneg (by omega) (by omega)
  have q2 : ((cn (fw D (rd R i) w) (dl D (rd R i)) : Nat) : Int) * f1 ≤ ((dl D (rd R i) : Nat) : Int) * f1 := Int.mul_le_mul_of_nonneg_right (by omega) (by omega)
  have q3 : (1 : Int) * f1 ≤ ((dl D (rd R i) : Nat) : Int) * f1 := Int.mul_le_mul_of_nonneg_right (by omega) (by omega)
  exact ⟨f01_div (fF_i _) (fF_i _) (by rw [et]; exact q1) (by rw [el]; omega) (by rw [et, el]; exact q2), by rw [el]; omega⟩
theorem tmD_ok {D : Dg} {R : Rg} (wd : wD D) (wr : wR D R) (w : Nat) {i : Nat} (hi : i < rn R) : f01 (tmD D R w i) := f01_mul (wr.2.2 i hi).2.2 (rtW_ok wd wr w hi).1
theorem woD_ok {D : Dg} {R : Rg} (wd : wD D) (wr : wR D R) (w : Nat) : ∀ i, i ≤ rn R → fF (woD D R w i) ∧ 0 ≤ fz (woD D R w i) ∧ fz (woD D R w i) ≤ (i : Int) * f1
  | 0, _ => by
    have h0 : fz (woD D R w 0) = 0 := fz_zero
    exact ⟨fF_zero, by omega, by rw [h0]; simp⟩
  | i + 1, hi => by
    obtain ⟨g1, g2, g3⟩ := woD_ok wd wr w i (by omega)
    obtain ⟨t1, t2, t3⟩ := tmD_ok wd wr w (show i < rn R by omega)
    have h12 := wr.1
    have hp := f1_pos
    have hc := i2d_h (i + 1) (by omega)
    have e : ((i + 1 : Nat) : Int) * f1 = (i : Int) * f1 + f1 := by rw [Int.natCast_add, Int.add_mul]; simp
    have r1 := f_add_le g1 t1 hc.1.n (by rw [hc.2, e]; omega)
    have r2 := f_add_ge g1 t1 fF_zero.n (by rw [fz_zero]; omega)
    exact ⟨f_fin (f_add_n g1 t1) fF_zero hc.1 r2 r1, by rw [fz_zero] at r2; exact r2, by rw [hc.2] at r1; exact r1⟩
theorem wv_ok {D : Dg} {R : Rg} (wd : wD D) (wr : wR D R) (w : Nat) : fF (wv D R w) ∧ 0 ≤ fz (wv D R w) ∧ fz (wv D R w) ≤ 100 * f1 := by
  obtain ⟨g1, g2, g3⟩ := woD_ok wd wr w (rn R) (Nat.le_refl _)
  have h12 := wr.1
  have hp := f1_pos
  have : ((rn R : Nat) : Int) * f1 ≤ 100 * f1 := Int.mul_le_mul_of_nonneg_right (by omega) (by omega)
  exact ⟨g1, g2, by show fz (woD D R w (rn R)) ≤ _; omega⟩
/-- the first of the greatest -/
def gm (S : Nat → UInt64) : Nat → Nat
  | 0 => 0
  | w + 1 => if fz (S (gm S w)) < fz (S w) then w else gm S w
theorem gm_1 (S : Nat → UInt64) : gm S 1 = 0 := by
  show (if fz (S 0) < fz (S 0) then 0 else 0) = 0
  split <;> rfl
theorem gm_lt (S : Nat → UInt64) : ∀ w, gm S (w + 1) ≤ w
  | 0 => by rw [gm_1]; exact Nat.le_refl _
  | w + 1 => by
    have := gm_lt S w
    have e : gm S (w + 1 + 1) = if fz (S (gm S (w + 1))) < fz (S (w + 1)) then w + 1 else gm S (w + 1) := rfl
    rw [e]
    split
    · exact Nat.le_refl _
    · omega
abbrev Kg : Type := (Nat → UInt64) × Nat × (Nat → Nat) × (Nat → UInt64)
def ks (x : Kg) : Nat → UInt64 := x.1
def kn (x : Kg) : Nat := x.2.1
def kc (x : Kg) : Nat → Nat := x.2.2.1
def kd (x : Kg) : Nat → UInt64 := x.2.2.2
def tkStep (x : Kg) : Kg := if 0 < fz (ks x (gm (ks x) 16)) then (upN (ks x) (gm (ks x) 16) FP.dconst0, kn x + 1, upN (kc x) (kn x) (gm (ks x) 16), upN (kd x) (kn x) (ks x (gm (ks x) 16))) else x
def tkN (D : Dg) (R : Rg) : Nat → Kg
  | 0 => (wv D R, 0, fun _ => 0, fun _ => 0)
  | j + 1 => tkStep (tkN D R j)
/-- which words are taken -/
def tkB (x : Kg) (w : Nat) : Bool := an (fun i => kc x i == w) (kn x)
def tkOk (D : Dg) (R : Rg) (x : Kg) : Prop := (∀ w, ks x w = if tkB x w then FP.dconst0 else wv D R w) ∧ ∀ i, i < kn x → kc x i < 16 ∧ kd x i = wv D R (kc x i) ∧ 0 < fz (kd x i)
theorem tkB_add {S : Nat → UInt64} {x : Kg} {g : Nat} {v : UInt64} (w : Nat) : tkB (S, kn x + 1, upN (kc x) (kn x) g, upN (kd x) (kn x) v) w = (tkB x w || g == w) := by
  show (an _ (kn x) || _) = _
  congr 1
  · exact an_congr _ (fun i hi => by show (upN (kc x) (kn x) g i == w) = _; rw [up_ne (by omega)])
  · show (upN (kc x) (kn x) g (kn x) == w) = _
    rw [up_hit]
theorem tkStep_ok {D : Dg} {R : Rg} {x : Kg} (h : tkOk D R x) : tkOk D R (tkStep x) := by
  simp only [tkStep]
  split
  · rename_i hp
    have hg : gm (ks x) 16 ≤ 15 := gm_lt (ks x) 15
    have hnt : tkB x (gm (ks x) 16) = false := by
      cases e : tkB x (gm (ks x) 16) with
      | false => rfl
      | true => rw [h.1, e, if_pos rfl, fz_zero] at hp; omega
    have hv : ks x (gm (ks x) 16) = wv D R (gm (ks x) 16) := by rw [h.1, hnt]; rfl
    refine ⟨fun w => ?_, fun i hi => ?_⟩
    · rw [tkB_add]
      show upN (ks x) (gm (ks x) 16) FP.dconst0 w = _
      by_cases e : w = gm (ks x) 16
      · rw [e, up_hit]; simp
      · rw [up_ne e, h.1 w]
        have : (gm (ks x) 16 == w) = false := by simp; omega
        rw [this, Bool.or_false]
    · have hi' : i < kn x + 1 := hi
      show upN (kc x) (kn x) _ i < 16 ∧ upN (kd x) (kn x) _ i = wv D R (upN (kc x) (kn x) _ i) ∧ 0 < fz (upN (kd x) (kn x) _ i)
      by_cases e : i = kn x
      · subst e; rw [up_hit, up_hit]; exact ⟨by omega, hv, hp⟩
      · rw [up_ne e, up_ne e]; exact h.2 i (by omega)
  · exact h
theorem tkN_ok (D : Dg) (R : Rg) : ∀ j, tkOk D R (tkN D R j) ∧ kn (tkN D R j) ≤ j
  | 0 => ⟨⟨fun w => rfl, fun i hi => absurd hi (by show ¬ i < 0; omega)⟩, Nat.le_refl _⟩
  | j + 1 => by
    obtain ⟨h1, h2⟩ := tkN_ok D R j
    refine ⟨tkStep_ok h1, ?_⟩
    show kn (tkStep (tkN D R j)) ≤ j + 1
    simp only [tkStep]
    split
    · show kn (tkN D R j) + 1 ≤ j + 1; omega
    · omega
theorem tkN_stop {D : Dg} {R : Rg} {j : Nat} (h : ¬ 0 < fz (ks (tkN D R j) (gm (ks (tkN D R j)) 16))) : ∀ m, tkN D R (j + m) = tkN D R j
  | 0 => rfl
  | m + 1 => by
    show tkStep (tkN D R (j + m)) = _
    rw [tkN_stop h m]
    simp only [tkStep]; rw [if_neg h]
/-- the reference's best -/
def bs (D : Dg) (R : Rg) (x : Kg) : Nat → Option Nat
  | 0 => none
  | w + 1 => if tkB x w = false ∧ 0 < fz (wv D R w) ∧ (∀ b, bs D R x w = some b → fz (wv D R b) < fz (wv D R w)) then some w else bs D R x w
theorem bs_gm {D : Dg} {R : Rg} {x : Kg} (hw : ∀ w, 0 ≤ fz (wv D R w)) (h : tkOk D R x) : ∀ w, bs D R x (w + 1) = if 0 < fz (ks x (gm (ks x) (w + 1))) then some (gm (ks x) (w + 1)) else none := by
  have hk : ∀ i, 0 < fz (ks x i) → tkB x i = false ∧ ks x i = wv D R i := by
    intro i hi
    cases e : tkB x i with
    | true => rw [h.1, e, if_pos rfl, fz_zero] at hi; omega
    | false => exact ⟨rfl, by rw [h.1, e]; rfl⟩
  have hk2 : ∀ i, tkB x i = false → ks x i = wv D R i := fun i e => by rw [h.1, e]; rfl
  have hk3 : ∀ i, 0 ≤ fz (ks x i) := by
    intro i
    rw [h.1]
    split
    · rw [fz_zero]; exact Int.le_refl _
    · exact hw i
  intro w
  induction w with
  | zero =>
    rw [gm_1]
    show (if _ then some 0 else none) = _
    by_cases hp : 0 < fz (ks x 0)
    · obtain ⟨a, b⟩ := hk 0 hp
      rw [if_pos hp, if_pos ⟨a, by rw [← b]; exact hp, fun b hb => by cases hb⟩]
    · rw [if_neg hp, if_neg]
      rintro ⟨a, b, -⟩
      rw [hk2 0 a] at hp
      exact hp b
  | succ w ih =>
    have eg : gm (ks x) (w + 1 + 1) = if fz (ks x (gm (ks x) (w + 1))) < fz (ks x (w + 1)) then w + 1 else gm (ks x) (w + 1) := rfl
    have eb : bs D R x (w + 1 + 1) = if tkB x (w + 1) = false ∧ 0 < fz (wv D R (w + 1)) ∧ (∀ b, bs D R x (w + 1) = some b → fz (wv D R b) < fz (wv D R (w + 1))) then some (w + 1) else bs D R x (w + 1) := rfl
    rw [eb, ih, eg]
    have g0 := hk3 (gm (ks x) (w + 1))
    by_cases hlt : fz (ks x (gm (ks x) (w + 1))) < fz (ks x (w + 1))
    · obtain ⟨a, b⟩ := hk (w + 1) (by omega)
      rw [if_pos hlt, if_pos (show 0 < fz (ks x (w + 1)) by omega), if_pos]
      refine ⟨a, by rw [← b]; omega, fun c hc => ?_⟩
      by_cases hp : 0 < fz (ks x (gm (ks x) (w + 1)))
      · rw [if_pos hp] at hc
        cases hc
        rw [← (hk _ hp).2, ← b]; exact hlt
      · rw [if_neg hp] at hc; cases hc
    · rw [if_neg hlt]
      rw [if_neg]
      rintro ⟨a, b, c⟩
      rw [← hk2 _ a] at b
      by_cases hp : 0 < fz (ks x (gm (ks x) (w + 1)))
      · have := c _ (by rw [if_pos hp])
        rw [← (hk _ hp).2, ← hk2 _ a] at this
        exact hlt this
      · omega
/-- the query that a model is -/
def mdA (T : Qg) (x : Kg) : Nat → Qg
  | 0 => addQ (noQ T) 9 (kn x) FP.dconst1
  | i + 1 => addQ (mdA T x i) 0 (kc x i) (kd x i)
def mdT (T : Qg) (x : Kg) : Qg := if kn x = 0 then noQ T else if kn x = 1 then addQ (noQ T) 0 (kc x 0) (kd x 0) else mdA T x (kn x)
theorem mdA_n (T : Qg) (x : Kg) : ∀ i, qn (mdA T x i) = i + 1
  | 0 => rfl
  | i + 1 => by show qn (mdA T x i) + 1 = _; rw [mdA_n T x i]
theorem mdA_0 (T : Qg) (x : Kg) : ∀ i, qk (mdA T x i) 0 = 9 ∧ qa (mdA T x i) 0 = kn x ∧ qw (mdA T x i) 0 = FP.dconst1
  | 0 => ⟨addQ_k', addQ_a', addQ_w'⟩
  | i + 1 => by
    have h := mdA_0 T x i
    have hn := mdA_n T x i
    show qk (addQ _ _ _ _) 0 = 9 ∧ qa (addQ _ _ _ _) 0 = kn x ∧ qw (addQ _ _ _ _) 0 = FP.dconst1
    rw [addQ_k (by omega), addQ_a (by omega), addQ_w (by omega)]
    exact h
theorem mdA_s (T : Qg) (x : Kg) : ∀ i t, t < i → qk (mdA T x i) (t + 1) = 0 ∧ qa (mdA T x i) (t + 1) = kc x t ∧ qw (mdA T x i) (t + 1) = kd x t
  | 0, t, h => by omega
  | i + 1, t, h => by
    have hn := mdA_n T x i
    show qk (addQ _ _ _ _) (t + 1) = 0 ∧ qa (addQ _ _ _ _) (t + 1) = _ ∧ qw (addQ _ _ _ _) (t + 1) = _
    by_cases e : t = i
    · subst e
      rw [← hn]
      exact ⟨addQ_k', addQ_a', addQ_w'⟩
    · rw [addQ_k (by omega), addQ_a (by omega), addQ_w (by omega)]
      exact mdA_s T x i t (by omega)
theorem term_g {D : Dg} {R : Rg} (wd : wD D) (wr : wR D R) {x : Kg} (h : tkOk D R x) {i : Nat} (hi : i < kn x) : gTok 0 (kc x i) (kd x i) := by
  obtain ⟨h1, h2, h3⟩ := h.2 i hi
  refine ⟨by omega, fun _ => h1, fun h => by omega, fun h => by omega, fun h => by omega, ?_⟩
  rw [h2] at h3 ⊢
  obtain ⟨w1, w2, w3⟩ := wv_ok wd wr (kc x i)
  exact ⟨w1, h3, by rw [show fz d100 = 100 * f1 from fz_100]; exact w3⟩
theorem point_g {n : Nat} (h1 : 1 ≤ n) (h4 : n ≤ 4) : gTok 9 n FP.dconst1 := by
  have hp := f1_pos
  refine ⟨by omega, fun h => by omega, fun h => by omega, fun _ _ => ⟨h1, h4⟩, fun h => by omega, ⟨fF_one, by rw [fz_one]; exact hp, by rw [fz_one, show fz d100 = 100 * f1 from fz_100]; omega⟩⟩
theorem mdA_ok {D : Dg} {R : Rg} (wd : wD D) (wr : wR D R) {T : Qg} {x : Kg} (h : tkOk D R x) (h1 : 1 ≤ kn x) (h4 : kn x ≤ 4) : ∀ i, i ≤ kn x → wQ (mdA T x i) ∧ op (mdA T x i) (i + 1) = kn x - i ∧ tw (mdA T x i) (i + 1) = 0
  | 0, _ => by
    have hg := point_g h1 h4
    have hw : wQ (mdA T x 0) := addQ_wf (noQ_wf T) (show (0 : Nat) < 24 by omega) (show (1 : Nat) ≠ 0 by omega) hg (fun h => absurd h (by show ¬ 0 < 0; omega))
    refine ⟨hw, ?_, ?_⟩
    · show op (mdA T x 0) 0 + prt (mdA T x 0) 0 - 1 = _
      have e := mdA_0 T x 0
      rw [prt_num (by rw [e.1]; omega) (by rw [e.1]; omega), e.2.1]
      show 1 + kn x - 1 = _; omega
    · show (if _ then _ else _) = 0
      rw [if_neg (by rw [(mdA_0 T x 0).1]; omega)]; rfl
  | i + 1, hi => by
    obtain ⟨g1, g2, g3⟩ := mdA_ok wd wr h h1 h4 i (by omega) (T := T)
    have hn := mdA_n T x i
    have hw : wQ (mdA T x (i + 1)) := addQ_wf g1 (by omega) (by rw [hn, g2]; omega) (term_g wd wr h (by omega)) (fun _ => rfl)
    have e := mdA_s T x (i + 1) i (by omega)
    refine ⟨hw, ?_, ?_⟩
    · show op (mdA T x (i + 1)) (i + 1) + prt (mdA T x (i + 1)) (i + 1) - 1 = _
      rw [prt_0 (by rw [e.1]; omega)]
      show op (addQ (mdA T x i) 0 (kc x i) (kd x i)) (i + 1) + 0 - 1 = _
      rw [addQ_op _ (by omega), g2]; omega
    · show (if _ then _ else _) = 0
      rw [if_neg (by rw [e.1]; omega)]
      show tw (addQ (mdA T x i) 0 (kc x i) (kd x i)) (i + 1) - 1 = 0
      rw [addQ_tw _ (by omega), g3]
theorem mdT_ok {D : Dg} {R : Rg} (wd : wD D) (wr : wR D R) {T : Qg} {x : Kg} (h : tkOk D R x) (h4 : kn x ≤ 4) : wQ (mdT T x) ∧ qn (mdT T x) = if kn x ≤ 1 then kn x else kn x + 1 := by
  simp only [mdT]
  by_cases e0 : kn x = 0
  · rw [if_pos e0, if_pos (by omega)]; exact ⟨noQ_wf T, by rw [e0]; rfl⟩
  · rw [if_neg e0]
    by_cases e1 : kn x = 1
    · rw [if_pos e1, if_pos (by omega)]
      exact ⟨addQ_wf (noQ_wf T) (show (0 : Nat) < 24 by omega) (show (1 : Nat) ≠ 0 by omega) (term_g wd wr h (by omega)) (fun _ => rfl), by rw [addQ_n, e1]; rfl⟩
    · rw [if_neg e1, if_neg (by omega), mdA_n]
      exact ⟨(mdA_ok wd wr h (by omega) h4 _ (Nat.le_refl _)).1, rfl⟩
