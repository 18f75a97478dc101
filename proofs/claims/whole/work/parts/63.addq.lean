/-! a TOKEN more -/
def upN {α : Type} (f : Nat → α) (n : Nat) (x : α) : Nat → α := fun i => if i = n then x else f i
theorem up_hit {α : Type} (f : Nat → α) (n : Nat) (x : α) : upN f n x n = x := if_pos rfl
theorem up_ne {α : Type} {f : Nat → α} {n i : Nat} {x : α} (h : i ≠ n) : upN f n x i = f i := if_neg h
def addQ (T : Qg) (k a : Nat) (w : UInt64) : Qg := (qn T + 1, upN (qk T) (qn T) k, upN (qa T) (qn T) a, upN (qw T) (qn T) w)
section AQ
variable {T : Qg} {k a : Nat} {w : UInt64}
theorem addQ_n : qn (addQ T k a w) = qn T + 1 := rfl
theorem addQ_k {t : Nat} (h : t < qn T) : qk (addQ T k a w) t = qk T t := up_ne (by omega)
theorem addQ_a {t : Nat} (h : t < qn T) : qa (addQ T k a w) t = qa T t := up_ne (by omega)
theorem addQ_w {t : Nat} (h : t < qn T) : qw (addQ T k a w) t = qw T t := up_ne (by omega)
theorem addQ_k' : qk (addQ T k a w) (qn T) = k := up_hit _ _ _
theorem addQ_a' : qa (addQ T k a w) (qn T) = a := up_hit _ _ _
theorem addQ_w' : qw (addQ T k a w) (qn T) = w := up_hit _ _ _
theorem addQ_p {t : Nat} (h : t < qn T) : prt (addQ T k a w) t = prt T t := by simp only [prt, addQ_k h, addQ_a h, addQ_w h]
theorem addQ_op : ∀ t, t ≤ qn T → op (addQ T k a w) t = op T t
  | 0, _ => rfl
  | t + 1, h => by simp only [op]; rw [addQ_op t (by omega), addQ_p (by omega)]
theorem addQ_tw : ∀ t, t ≤ qn T → tw (addQ T k a w) t = tw T t
  | 0, _ => rfl
  | t + 1, h => by simp only [tw]; rw [addQ_tw t (by omega), addQ_p (by omega), addQ_k (by omega)]
def gTok (k a : Nat) (w : UInt64) : Prop := k ≤ 11 ∧ (k < 2 → a < 16) ∧ (k = 2 ∨ k = 3 → 1 ≤ a ∧ a ≤ 24) ∧ (5 ≤ k → k ≤ 9 → 1 ≤ a ∧ a ≤ 4) ∧ (2 ≤ k → k ≤ 4 → FP.d2i w = nI (wn w) ∧ 1 ≤ wn w ∧ wn w ≤ 4) ∧ wgood w
theorem addQ_g {t : Nat} (h : t < qn T) (hg : tgood T t) : tgood (addQ T k a w) t := by
  simp only [tgood, addQ_k h, addQ_a h, addQ_w h]; exact hg
theorem addQ_g' (h : gTok k a w) : tgood (addQ T k a w) (qn T) := by
  simp only [tgood, addQ_k', addQ_a', addQ_w']; exact h
theorem win_last (wq : wQ T) {t : Nat} (ht : t < qn T) (h2 : 2 ≤ qk T t) (h4 : qk T t ≤ 4) (hp : qn T ≤ t + prt T t) : 0 < tw T (qn T) := by
  have e := tw_back (T := T) (qn T - 1 - t) (qn T) (by omega) (fun i hi => by
    have := wq.2.2.2 t ht h2 h4 (qn T - 1 - i - t) (by omega) (by omega) (by omega)
    rw [show t + (qn T - 1 - i - t) = qn T - 1 - i by omega] at this
    omega)
  rw [show qn T - (qn T - 1 - t) = t + 1 by omega, tw_win ⟨h2, h4⟩] at e
  omega
theorem addQ_wf (wq : wQ T) (hn : qn T < 24) (ho : op T (qn T) ≠ 0) (hg : gTok k a w) (hk : 0 < tw T (qn T) → k = 0) : wQ (addQ T k a w) := by
  refine ⟨by rw [addQ_n]; omega, fun t ht => ?_, fun t ht => ?_, fun t ht h2 h4 i h1 hi hti => ?_⟩
  · rw [addQ_n] at ht
    by_cases e : t = qn T
    · subst e; exact addQ_g' hg
    · exact addQ_g (by omega) (wq.2.1 t (by omega))
  · rw [addQ_n] at ht
    rw [addQ_op t (by omega)]
    by_cases e : t = qn T
    · subst e; omega
    · exact wq.2.2.1 t (by omega)
  · rw [addQ_n] at ht hti
    have htl : t < qn T := by omega
    rw [addQ_k htl] at h2 h4
    rw [addQ_p htl] at hi
    by_cases e : t + i = qn T
    · rw [e, addQ_k']
      exact hk (win_last wq htl h2 h4 (by omega))
    · rw [addQ_k (by omega)]
      exact wq.2.2.2 t htl h2 h4 i h1 hi (by omega)
end AQ
/-- no token -/
def noQ (T : Qg) : Qg := (0, qk T, qa T, qw T)
theorem noQ_wf (T : Qg) : wQ (noQ T) := ⟨by show 0 ≤ 24; omega, fun t ht => absurd ht (by show ¬ t < 0; omega), fun t ht => absurd ht (by show ¬ t < 0; omega), fun t ht => absurd ht (by show ¬ t < 0; omega)⟩
/-- the arrays of the class's query -/
def iQA (T : Qg) (M : ab_M) : Prop := M.1 17 4 = nI (qn T) ∧ (∀ t, t < qn T → M.1 18 t = nI (qk T t)) ∧ (∀ t, t < qn T → M.1 19 t = nI (qa T t)) ∧ ∀ t, t < qn T → M.2.1 20 t = qw T t
theorem iQA_of {T : Qg} {M M' : ab_M} (h : iQA T M) (e4 : M'.1 17 4 = M.1 17 4) (e : ∀ a i, 18 ≤ a → a ≤ 20 → M'.1 a i = M.1 a i ∧ M'.2.1 a i = M.2.1 a i) : iQA T M' := by
  obtain ⟨h1, h2, h3, h4⟩ := h
  exact ⟨by rw [e4, h1], fun t ht => by rw [(e 18 t (by omega) (by omega)).1, h2 t ht], fun t ht => by rw [(e 19 t (by omega) (by omega)).1, h3 t ht], fun t ht => by rw [(e 20 t (by omega) (by omega)).2, h4 t ht]⟩
/-- weights that a script gives -/
theorem fz_3 : fz 4613937818241073152 = 3 * f1 := by decide +kernel
theorem fF_3 : fF 4613937818241073152 := (FP.Core.fin_bits _).mpr (by decide +kernel)
theorem fz_4 : fz 4616189618054758400 = 4 * f1 := by decide +kernel
theorem fF_4 : fF 4616189618054758400 := (FP.Core.fin_bits _).mpr (by decide +kernel)
theorem fF_8th : fF 4593671619917905920 := (FP.Core.fin_bits _).mpr (by decide +kernel)
def nmP (x y : Int) : Prop := (0 ≤ x ∧ x ≤ 11) ∧ (x ≤ 1 → 0 ≤ y ∧ y ≤ 15) ∧ (x = 2 ∨ x = 3 → 1 ≤ y ∧ y ≤ 24) ∧ (5 ≤ x → x ≤ 9 → 1 ≤ y ∧ y ≤ 4)
def wtP (x z : Int) : Prop := (2 ≤ x → x ≤ 4 → z = f1 ∨ z = 2 * f1 ∨ z = 3 * f1 ∨ z = 4 * f1) ∧ (x < 2 ∨ 4 < x → 0 < z ∧ z ≤ 100 * f1)
