/-! the STATE that class and reference share, and what each of them keeps of it -/
abbrev Dg : Type := Nat × (Nat → Nat) × (Nat → Nat → Nat) × (Nat → Nat)
def dn (D : Dg) : Nat := D.1
def dl (D : Dg) : Nat → Nat := D.2.1
def dw (D : Dg) : Nat → Nat → Nat := D.2.2.1
def dt (D : Dg) : Nat → Nat := D.2.2.2
abbrev Qg : Type := Nat × (Nat → Nat) × (Nat → Nat) × (Nat → UInt64)
def qn (T : Qg) : Nat := T.1
def qk (T : Qg) : Nat → Nat := T.2.1
def qa (T : Qg) : Nat → Nat := T.2.2.1
def qw (T : Qg) : Nat → UInt64 := T.2.2.2
abbrev Sg : Type := Nat × UInt64
abbrev Rg : Type := Nat × Nat × (Nat → Nat) × (Nat → UInt64)
def rn (R : Rg) : Nat := R.1
def ro (R : Rg) : Nat := R.2.1
def rd (R : Rg) : Nat → Nat := R.2.2.1
def rb (R : Rg) : Nat → UInt64 := R.2.2.2
def d100 : UInt64 := 4636737291354636288
def dall (D : Dg) : Nat := ps (dl D) (dn D)
def wD (D : Dg) : Prop := dn D ≤ 12 ∧ (∀ d, dl D d ≤ 24) ∧ (∀ d, dn D ≤ d → dl D d = 0) ∧ (∀ d p, dw D d p < 16) ∧ ∀ d, dt D d ≤ 24
def iDC (D : Dg) (M : ab_M) : Prop := M.1 1 3 = nI (dn D) ∧ M.1 1 4 = nI (dall D) ∧ (∀ d, d < 12 → M.1 15 d = nI (dl D d)) ∧ (∀ d p, d < 12 → p < dl D d → M.1 (yR sys 2 d) p = nI (dw D d p)) ∧ ∀ d, d < dn D → M.1 16 d = nI (dt D d)
def iDR (D : Dg) (M : ab_M) : Prop := M.1 57 4 = nI (dn D) ∧ (∀ d, d < 12 → M.1 59 d = nI (dl D d)) ∧ (∀ d p, d < 12 → p < dl D d → M.1 58 (24 * d + p) = nI (dw D d p)) ∧ ∀ d, d < dn D → M.1 60 d = nI (dt D d)
/-- the parts of a token -/
def wn (x : UInt64) : Nat := (FP.d2i x).toNatClampNeg
def prt (T : Qg) (t : Nat) : Nat := if qk T t < 2 then 0 else if qk T t ≤ 4 then wn (qw T t) else if qk T t ≤ 9 then qa T t else if qk T t = 10 then 1 else 2
def wgood (x : UInt64) : Prop := fF x ∧ 0 < fz x ∧ fz x ≤ fz d100
def tgood (T : Qg) (t : Nat) : Prop := qk T t ≤ 11 ∧ (qk T t < 2 → qa T t < 16) ∧ (qk T t = 2 ∨ qk T t = 3 → 1 ≤ qa T t ∧ qa T t ≤ 24) ∧ (5 ≤ qk T t → qk T t ≤ 9 → 1 ≤ qa T t ∧ qa T t ≤ 4) ∧ (2 ≤ qk T t → qk T t ≤ 4 → FP.d2i (qw T t) = nI (wn (qw T t)) ∧ 1 ≤ wn (qw T t) ∧ wn (qw T t) ≤ 4) ∧ wgood (qw T t)
def op (T : Qg) : Nat → Nat
  | 0 => 1
  | t + 1 => op T t + prt T t - 1
def tw (T : Qg) : Nat → Nat
  | 0 => 0
  | t + 1 => if 2 ≤ qk T t ∧ qk T t ≤ 4 then prt T t else tw T t - 1
def wQ (T : Qg) : Prop := qn T ≤ 24 ∧ (∀ t, t < qn T → tgood T t) ∧ (∀ t, t < qn T → 0 < op T t) ∧ ∀ t, t < qn T → 2 ≤ qk T t → qk T t ≤ 4 → ∀ i, 1 ≤ i → i ≤ prt T t → t + i < qn T → qk T (t + i) = 0
def eb (T : Qg) : Nat → Nat → Nat
  | 0 => fun _ => 0
  | k + 1 => fun i => if i = qn T - 1 - k then itE (eb T k) (prt T i) (i + 1) else eb T k i
def en (T : Qg) : Nat → Nat := eb T (qn T)
def iQC (T : Qg) (M : ab_M) : Prop := M.1 17 4 = nI (qn T) ∧ (∀ t, t < qn T → M.1 18 t = nI (qk T t)) ∧ (∀ t, t < qn T → M.1 19 t = nI (qa T t)) ∧ (∀ t, t < qn T → M.2.1 20 t = qw T t) ∧ M.1 17 5 = nI (op T (qn T)) ∧ M.1 17 6 = nI (tw T (qn T)) ∧ (op T (qn T) = 0 → ∀ t, t < qn T → M.1 21 t = nI (en T t))
def iQR (T : Qg) (M : ab_M) : Prop := M.1 57 8 = nI (qn T) ∧ (∀ t, t < qn T → M.1 61 t = nI (qk T t)) ∧ (∀ t, t < qn T → M.1 62 t = nI (qa T t)) ∧ ∀ t, t < qn T → M.2.1 63 t = qw T t
def wS (S : Sg) : Prop := S.1 ≤ 1 ∧ ∃ k : Nat, 1 ≤ k ∧ k ≤ 800 ∧ (S.1 = 1 → k ≤ 8) ∧ S.2 = FP.dmul (FP.i2d (nI k)) 4593671619917905920
def iSC (S : Sg) (M : ab_M) : Prop := M.1 22 5 = nI S.1 ∧ M.2.1 22 6 = S.2
def iSR (S : Sg) (M : ab_M) : Prop := M.1 57 9 = nI S.1 ∧ M.2.1 57 10 = S.2
def wR (D : Dg) (R : Rg) : Prop := rn R ≤ 12 ∧ ro R ≤ 12 ∧ ∀ i, i < rn R → rd R i < dn D ∧ 0 < dl D (rd R i) ∧ f01 (rb R i)
def iRC (R : Rg) (M : ab_M) : Prop := M.1 50 2 = nI (rn R) ∧ M.1 50 3 = nI (ro R) ∧ (∀ i, i < rn R → M.1 51 i = nI (rd R i)) ∧ ∀ i, i < rn R → M.2.1 52 i = rb R i
def iRR (R : Rg) (M : ab_M) : Prop := M.1 57 18 = nI (rn R) ∧ M.1 57 19 = nI (ro R) ∧ (∀ i, i < rn R → M.1 67 i = nI (rd R i)) ∧ ∀ i, i < rn R → M.2.1 68 i = rb R i
theorem prt_le {T : Qg} {t : Nat} (h : tgood T t) : prt T t ≤ 4 := by
  obtain ⟨h1, h2, h3, h4, h5, h6⟩ := h
  simp only [prt]
  split
  · omega
  split
  · exact (h5 (by omega) (by omega)).2.2
  split
  · exact (h4 (by omega) (by omega)).2
  split <;> omega
/-! the chain of nodes behind a token -/
theorem op_succ {T : Qg} {t : Nat} (h : 0 < op T t) : op T (t + 1) + 1 = op T t + prt T t := by
  show op T t + prt T t - 1 + 1 = _; omega
def chain (T : Qg) (E : Nat → Nat) (t : Nat) : Prop := (∀ j, j < op T t → t ≤ itE E j t ∧ itE E j t < qn T) ∧ itE E (op T t) t = qn T
theorem chain_step {T : Qg} {E : Nat → Nat} {t : Nat} (ht : t < qn T) (h0 : 0 < op T t) (hE : E t = itE E (prt T t) (t + 1)) (h : chain T E (t + 1)) : chain T E t := by
  have hs := op_succ h0
  have hsh : ∀ j, itE E (j + 1) t = itE E (prt T t + j) (t + 1) := by
    intro j
    rw [Nat.add_comm j 1, itE_add E t 1 j]
    show itE E j (E t) = _
    rw [hE, itE_add]
  constructor
  · intro j hj
    cases j with
    | zero => exact ⟨Nat.le_refl _, ht⟩
    | succ j =>
      rw [hsh j]
      have := h.1 (prt T t + j) (by omega)
      exact ⟨by omega, this.2⟩
  · obtain ⟨j, hj⟩ : ∃ j, op T t = j + 1 := ⟨op T t - 1, by omega⟩
    rw [hj, hsh j, show prt T t + j = op T (t + 1) by omega]
    exact h.2
theorem chain_congr {T : Qg} {E F : Nat → Nat} {t : Nat} (h : chain T E t) (he : ∀ i, t ≤ i → i < qn T → E i = F i) : chain T F t := by
  have hc : ∀ j, j ≤ op T t → itE F j t = itE E j t := fun j hj => itE_congr j (fun i hi => he _ (h.1 i (by omega)).1 (h.1 i (by omega)).2)
  refine ⟨fun j hj => ?_, ?_⟩
  · rw [hc j (by omega)]; exact h.1 j hj
  · rw [hc _ (Nat.le_refl _)]; exact h.2
theorem eb_chain {T : Qg} (hw : wQ T) (h0 : op T (qn T) = 0) : ∀ k, k ≤ qn T → (∀ t, qn T - k ≤ t → t ≤ qn T → chain T (eb T k) t) ∧ ∀ t, qn T - k ≤ t → t < qn T → eb T k t = itE (eb T k) (prt T t) (t + 1)
  | 0, _ => by
    refine ⟨fun t h1 h2 => ?_, fun t h1 h2 => by omega⟩
    have : t = qn T := by omega
    subst this
    refine ⟨fun j hj => by omega, ?_⟩
    rw [h0]; rfl
  | k + 1, hk => by
    obtain ⟨ih1, ih2⟩ := eb_chain hw h0 k (by omega)
    have hoff : ∀ i, qn T - k ≤ i → i < qn T → eb T k i = eb T (k + 1) i := by
      intro i h1 h2
      show _ = if i = qn T - 1 - k then _ else _
      rw [if_neg (by omega)]
    have hc : ∀ t, qn T - k ≤ t → t ≤ qn T → chain T (eb T (k + 1)) t := fun t h1 h2 => chain_congr (ih1 t h1 h2) (fun i a b => hoff i (by omega) b)
    have hit : ∀ t j, qn T - k ≤ t → t ≤ qn T → j ≤ op T t → itE (eb T (k + 1)) j t = itE (eb T k) j t := fun t j h1 h2 h3 =>
      itE_congr j (fun i hi => hoff _ (Nat.le_trans h1 ((ih1 t h1 h2).1 i (by omega)).1) ((ih1 t h1 h2).1 i (by omega)).2)
    have hE : ∀ t, qn T - (k + 1) ≤ t → t < qn T → eb T (k + 1) t = itE (eb T (k + 1)) (prt T t) (t + 1) := by
      intro t h1 h2
      have hs := op_succ (hw.2.2.1 t h2)
      have h3 := hw.2.2.1 t h2
      rw [hit (t + 1) (prt T t) (by omega) (by omega) (by omega)]
      by_cases e : t = qn T - 1 - k
      · show (if t = qn T - 1 - k then _ else _) = _
        rw [if_pos e]
      · rw [← hoff t (by omega) h2]
        exact ih2 t (by omega) h2
    refine ⟨fun t h1 h2 => ?_, hE⟩
    by_cases e : qn T - k ≤ t
    · exact hc t e h2
    · exact chain_step (by omega) (hw.2.2.1 t (by omega)) (hE t h1 (by omega)) (hc (t + 1) (by omega) (by omega))
theorem en_chain {T : Qg} (hw : wQ T) (h0 : op T (qn T) = 0) {t : Nat} (h : t ≤ qn T) : chain T (en T) t := (eb_chain hw h0 (qn T) (Nat.le_refl _)).1 t (by omega) h
theorem en_at {T : Qg} (hw : wQ T) (h0 : op T (qn T) = 0) {t : Nat} (h : t < qn T) : en T t = itE (en T) (prt T t) (t + 1) := (eb_chain hw h0 (qn T) (Nat.le_refl _)).2 t (by omega) h
/-- the first token of a part -/
def pa (T : Qg) (t i : Nat) : Nat := itE (en T) i (t + 1)
theorem pa_lt {T : Qg} (hw : wQ T) (h0 : op T (qn T) = 0) {t i : Nat} (h : t < qn T) (hi : i < prt T t) : t < pa T t i ∧ pa T t i < qn T := by
  have hs := op_succ (hw.2.2.1 t h)
  have h3 := hw.2.2.1 t h
  exact (en_chain hw h0 (t := t + 1) (by omega)).1 i (by omega)
theorem pa_le {T : Qg} (hw : wQ T) (h0 : op T (qn T) = 0) {t i : Nat} (h : t < qn T) (hi : i ≤ prt T t) : t < pa T t i ∧ pa T t i ≤ qn T := by
  have hs := op_succ (hw.2.2.1 t h)
  have h3 := hw.2.2.1 t h
  have hc := en_chain hw h0 (t := t + 1) (by omega)
  by_cases e : i < op T (t + 1)
  · have := hc.1 i e; exact ⟨this.1, Nat.le_of_lt this.2⟩
  · have e2 : i = op T (t + 1) := by omega
    simp only [pa, e2, hc.2]; omega
/-- the parts of a window are the terms behind it -/
theorem win_in {T : Qg} (hw : wQ T) (h0 : op T (qn T) = 0) {t : Nat} (h : t < qn T) (h2 : 2 ≤ qk T t) (h4 : qk T t ≤ 4) : ∀ i, i ≤ prt T t → pa T t i = t + 1 + i ∧ (i < prt T t → t + 1 + i < qn T)
  | 0, _ => ⟨rfl, fun hi => by have := (pa_lt hw h0 h hi).2; exact this⟩
  | i + 1, hi => by
    obtain ⟨e, hlt⟩ := win_in hw h0 h h2 h4 i (by omega)
    have hl := hlt (by omega)
    have hk := hw.2.2.2 t h h2 h4 (i + 1) (by omega) hi (by omega)
    have he : pa T t (i + 1) = t + 1 + (i + 1) := by
      show en T (itE (en T) i (t + 1)) = _
      have e' : itE (en T) i (t + 1) = t + 1 + i := e
      rw [e', en_at hw h0 hl]
      have : prt T (t + 1 + i) = 0 := by
        simp only [prt, show t + 1 + i = t + (i + 1) by omega, hk]; simp
      rw [this]; show t + 1 + i + 1 = _; omega
    refine ⟨he, fun hi2 => ?_⟩
    have := (pa_lt hw h0 h hi2).2
    rw [he] at this; exact this
/-! what stays the same -/
def frR (M M' : ab_M) : Prop := ∀ a i, 57 ≤ a → M'.1 a i = M.1 a i ∧ M'.2.1 a i = M.2.1 a i ∧ M'.2.2 a i = M.2.2 a i
def frC (M M' : ab_M) : Prop := ∀ a i, a < 57 → M'.1 a i = M.1 a i ∧ M'.2.1 a i = M.2.1 a i ∧ M'.2.2 a i = M.2.2 a i
theorem iDC_of {D : Dg} {M M' : ab_M} (h : iDC D M) (e : ∀ a i, a ≤ 16 → M'.1 a i = M.1 a i) : iDC D M' := by
  obtain ⟨h1, h2, h3, h4, h5⟩ := h
  refine ⟨by rw [e 1 3 (by omega), h1], by rw [e 1 4 (by omega), h2], fun d hd => by rw [e 15 d (by omega), h3 d hd], fun d p hd hp => ?_, fun d hd => by rw [e 16 d (by omega), h5 d hd]⟩
  have : ∀ d, d < 12 → yR sys 2 d ≤ 16 := by decide +kernel
  rw [e _ p (this d hd), h4 d p hd hp]
theorem iQC_of {T : Qg} {M M' : ab_M} (h : iQC T M) (e : ∀ a i, 17 ≤ a → a ≤ 21 → M'.1 a i = M.1 a i ∧ M'.2.1 a i = M.2.1 a i) : iQC T M' := by
  obtain ⟨h1, h2, h3, h4, h5, h6, h7⟩ := h
  refine ⟨by rw [(e 17 4 (by omega) (by omega)).1, h1], fun t ht => by rw [(e 18 t (by omega) (by omega)).1, h2 t ht], fun t ht => by rw [(e 19 t (by omega) (by omega)).1, h3 t ht], fun t ht => by rw [(e 20 t (by omega) (by omega)).2, h4 t ht], by rw [(e 17 5 (by omega) (by omega)).1, h5], by rw [(e 17 6 (by omega) (by omega)).1, h6], fun h t ht => by rw [(e 21 t (by omega) (by omega)).1, h7 h t ht]⟩
theorem iSC_of {S : Sg} {M M' : ab_M} (h : iSC S M) (e : ∀ i, 5 ≤ i → M'.1 22 i = M.1 22 i ∧ M'.2.1 22 i = M.2.1 22 i) : iSC S M' := ⟨by rw [(e 5 (by omega)).1, h.1], by rw [(e 6 (by omega)).2, h.2]⟩
theorem iRC_of {R : Rg} {M M' : ab_M} (h : iRC R M) (e : ∀ a i, 50 ≤ a → a ≤ 52 → M'.1 a i = M.1 a i ∧ M'.2.1 a i = M.2.1 a i) : iRC R M' := by
  obtain ⟨h1, h2, h3, h4⟩ := h
  exact ⟨by rw [(e 50 2 (by omega) (by omega)).1, h1], by rw [(e 50 3 (by omega) (by omega)).1, h2], fun t ht => by rw [(e 51 t (by omega) (by omega)).1, h3 t ht], fun t ht => by rw [(e 52 t (by omega) (by omega)).2, h4 t ht]⟩
theorem iDR_of {D : Dg} {M M' : ab_M} (h : iDR D M) (e4 : M'.1 57 4 = M.1 57 4) (e : ∀ a i, 58 ≤ a → a ≤ 60 → M'.1 a i = M.1 a i) : iDR D M' := by
  obtain ⟨h1, h3, h4, h5⟩ := h
  exact ⟨by rw [e4, h1], fun d hd => by rw [e 59 d (by omega) (by omega), h3 d hd], fun d p hd hp => by rw [e 58 _ (by omega) (by omega), h4 d p hd hp], fun d hd => by rw [e 60 d (by omega) (by omega), h5 d hd]⟩
theorem iQR_of {T : Qg} {M M' : ab_M} (h : iQR T M) (e8 : M'.1 57 8 = M.1 57 8) (e : ∀ a i, 61 ≤ a → a ≤ 63 → M'.1 a i = M.1 a i ∧ M'.2.1 a i = M.2.1 a i) : iQR T M' := by
  obtain ⟨h1, h2, h3, h4⟩ := h
  exact ⟨by rw [e8, h1], fun t ht => by rw [(e 61 t (by omega) (by omega)).1, h2 t ht], fun t ht => by rw [(e 62 t (by omega) (by omega)).1, h3 t ht], fun t ht => by rw [(e 63 t (by omega) (by omega)).2, h4 t ht]⟩
theorem iSR_of {S : Sg} {M M' : ab_M} (h : iSR S M) (e : ∀ i, 9 ≤ i → i ≤ 10 → M'.1 57 i = M.1 57 i ∧ M'.2.1 57 i = M.2.1 57 i) : iSR S M' := ⟨by rw [(e 9 (by omega) (by omega)).1, h.1], by rw [(e 10 (by omega) (by omega)).2, h.2]⟩
theorem iRR_of {R : Rg} {M M' : ab_M} (h : iRR R M) (e8 : ∀ i, 18 ≤ i → M'.1 57 i = M.1 57 i) (e : ∀ a i, 67 ≤ a → a ≤ 68 → M'.1 a i = M.1 a i ∧ M'.2.1 a i = M.2.1 a i) : iRR R M' := by
  obtain ⟨h1, h2, h3, h4⟩ := h
  exact ⟨by rw [e8 18 (by omega), h1], by rw [e8 19 (by omega), h2], fun t ht => by rw [(e 67 t (by omega) (by omega)).1, h3 t ht], fun t ht => by rw [(e 68 t (by omega) (by omega)).2, h4 t ht]⟩
