/-! class and reference hold the same STATE -/
def CI (D : Dg) (T : Qg) (S : Sg) (R : Rg) (M : ab_M) : Prop := iDC D M ∧ iQC T M ∧ iSC S M ∧ iRC R M
def RI (D : Dg) (T : Qg) (S : Sg) (R : Rg) (M : ab_M) : Prop := iDR D M ∧ iQR T M ∧ iSR S M ∧ iRR R M
def WF (D : Dg) (T : Qg) (S : Sg) (R : Rg) : Prop := wD D ∧ wQ T ∧ wS S ∧ wR D R
def INV (D : Dg) (T : Qg) (S : Sg) (R : Rg) (M : ab_M) : Prop := WF D T S R ∧ CI D T S R M ∧ RI D T S R M
theorem CI_of {D : Dg} {T : Qg} {S : Sg} {R : Rg} {M M' : ab_M} (h : CI D T S R M) (f : ∀ a i, a < 57 → M'.1 a i = M.1 a i ∧ M'.2.1 a i = M.2.1 a i) : CI D T S R M' :=
  ⟨iDC_of h.1 (fun a i ha => (f a i (by omega)).1), iQC_of h.2.1 (fun a i h1 h2 => f a i (by omega)), iSC_of h.2.2.1 (fun i _ => f 22 i (by omega)), iRC_of h.2.2.2 (fun a i h1 h2 => f a i (by omega))⟩
theorem RI_of {D : Dg} {T : Qg} {S : Sg} {R : Rg} {M M' : ab_M} (h : RI D T S R M) (f : ∀ a i, 57 ≤ a → a ≤ 68 → (a ≠ 57 ∨ i ≠ 0) → M'.1 a i = M.1 a i ∧ M'.2.1 a i = M.2.1 a i) : RI D T S R M' :=
  ⟨iDR_of h.1 (f _ _ (by omega) (by omega) (by omega)).1 (fun a i h1 h2 => (f a i (by omega) (by omega) (by omega)).1), iQR_of h.2.1 (f _ _ (by omega) (by omega) (by omega)).1 (fun a i h1 h2 => f a i (by omega) (by omega) (by omega)), iSR_of h.2.2.1 (fun i h1 h2 => f _ i (by omega) (by omega) (by omega)), iRR_of h.2.2.2 (fun i h1 => (f _ i (by omega) (by omega) (by omega)).1) (fun a i h1 h2 => f a i (by omega) (by omega) (by omega))⟩
theorem RI_frR {D : Dg} {T : Qg} {S : Sg} {R : Rg} {M M' : ab_M} (h : RI D T S R M) (f : frR M M') : RI D T S R M' := RI_of h (fun a i h1 _ _ => ⟨(f a i h1).1, (f a i h1).2.1⟩)
theorem CI_frC {D : Dg} {T : Qg} {S : Sg} {R : Rg} {M M' : ab_M} (h : CI D T S R M) (f : frC' M M') : CI D T S R M' := CI_of h (fun a i ha => ⟨(f a i (by omega)).1, (f a i (by omega)).2.1⟩)
theorem CI_J {D : Dg} {T : Qg} {S : Sg} {R : Rg} {M : ab_M} {i : Nat} {x : Int64} (h : CI D T S R M) : CI D T S R (ab_sJ M 69 i x) := CI_of h (fun _ _ _ => ⟨rfl, rfl⟩)
theorem RI_J {D : Dg} {T : Qg} {S : Sg} {R : Rg} {M : ab_M} {i : Nat} {x : Int64} (h : RI D T S R M) : RI D T S R (ab_sJ M 69 i x) := RI_of h (fun _ _ _ _ _ => ⟨rfl, rfl⟩)
theorem CI_D {D : Dg} {T : Qg} {S : Sg} {R : Rg} {M : ab_M} {i : Nat} {x : UInt64} (h : CI D T S R M) : CI D T S R (ab_sD M 70 i x) := CI_of h (fun a j ha => ⟨rfl, sD_ne (by omega)⟩)
theorem RI_D {D : Dg} {T : Qg} {S : Sg} {R : Rg} {M : ab_M} {i : Nat} {x : UInt64} (h : RI D T S R M) : RI D T S R (ab_sD M 70 i x) := RI_of h (fun a j h1 h2 _ => ⟨rfl, sD_ne (by omega)⟩)
theorem RI_thr {D : Dg} {T : Qg} {S : Sg} {R : Rg} {M : ab_M} {c : Nat} (h : RI D T S R M) : RI D T S R (thrM c M) := RI_of h (fun a j h1 h2 h3 => ⟨sI_ne (by omega), rfl⟩)
theorem CI_thr {D : Dg} {T : Qg} {S : Sg} {R : Rg} {M : ab_M} {c : Nat} (h : CI D T S R M) : CI D T S R (thrM c M) := CI_frC h frC_sI
theorem frR_O {lo hi : Nat} {M M' : ab_M} (h : frO lo hi M M') (hh : hi ≤ 56) : frR M M' := fun a i ha => h a i (by omega)
/-! document -/
def addD (D : Dg) (t : Nat) : Dg := (dn D + 1, dl D, dw D, upN (dt D) (dn D) t)
theorem addD_w {D : Dg} {t : Nat} (wd : wD D) (hn : dn D < 12) (ht : t ≤ 24) : wD (addD D t) :=
  ⟨by show dn D + 1 ≤ 12; omega, wd.2.1, fun d hd => wd.2.2.1 d (by have : dn D + 1 ≤ d := hd; omega), wd.2.2.2.1, fun d => by
    show upN (dt D) (dn D) t d ≤ 24
    by_cases e : d = dn D
    · rw [e, up_hit]; exact ht
    · rw [up_ne e]; exact wd.2.2.2.2 d⟩
theorem addD_r {D : Dg} {R : Rg} {t : Nat} (wr : wR D R) : wR (addD D t) R := ⟨wr.1, wr.2.1, fun i hi => ⟨by show rd R i < dn D + 1; have := (wr.2.2 i hi).1; omega, (wr.2.2 i hi).2.1, (wr.2.2 i hi).2.2⟩⟩
theorem addD_all {D : Dg} {t : Nat} (wd : wD D) : dall (addD D t) = dall D := by
  show ps (dl D) (dn D) + dl D (dn D) = _
  rw [wd.2.2.1 (dn D) (Nat.le_refl _)]; rfl
theorem docC_ok {D : Dg} {T : Qg} {S : Sg} {R : Rg} {M : ab_M} {t : Nat} (wd : wD D) (hn : dn D < 12) (h : CI D T S R M) : CI (addD D t) T S R (docC D t M) ∧ frR M (docC D t M) := by
  have f : ∀ a i, (a ≠ 16 ∨ i ≠ dn D) → (a ≠ 1 ∨ i ≠ 3) → (docC D t M).1 a i = M.1 a i := fun a i h1 h2 => by simp only [docC]; rw [sI_ne (by omega), sI_ne (by omega)]
  refine ⟨⟨⟨?_, ?_, fun d hd => ?_, fun d p hd hp => ?_, fun d hd => ?_⟩, iQC_of h.2.1 (fun a i h1 h2 => ⟨f a i (by omega) (by omega), rfl⟩), iSC_of h.2.2.1 (fun i _ => ⟨f _ i (by omega) (by omega), rfl⟩), iRC_of h.2.2.2 (fun a i h1 h2 => ⟨f a i (by omega) (by omega), rfl⟩)⟩, fun a i ha => ⟨f a i (by omega) (by omega), rfl, rfl⟩⟩
  · simp only [docC]; rw [sI_hit]; rfl
  · rw [f _ _ (by omega) (by omega), addD_all wd]; exact h.1.2.1
  · rw [f _ _ (by omega) (by omega)]; exact h.1.2.2.1 d hd
  · rw [R2 d hd, f _ _ (by omega) (by omega), ← R2 d hd]; exact h.1.2.2.2.1 d p hd hp
  · have hd' : d < dn D + 1 := hd
    show _ = nI (upN (dt D) (dn D) t d)
    by_cases e : d = dn D
    · rw [e, up_hit]; simp only [docC]; rw [sI_ne (by omega), sI_hit]
    · rw [up_ne e, f _ _ (by omega) (by omega)]; exact h.1.2.2.2.2 d (by omega)
theorem docR_ok {D : Dg} {T : Qg} {S : Sg} {R : Rg} {M : ab_M} {t : Nat} (wd : wD D) (hn : dn D < 12) (h : RI D T S R M) : RI (addD D t) T S R (docR D t M) ∧ frC' M (docR D t M) ∧ (docR D t M).1 57 0 = nI 0 := by
  have f : ∀ a i, (a ≠ 60 ∨ i ≠ dn D) → (a ≠ 59 ∨ i ≠ dn D) → (a ≠ 57 ∨ (i ≠ 0 ∧ i ≠ 4)) → (docR D t M).1 a i = M.1 a i := fun a i h1 h2 h3 => by simp only [docR]; rw [sI_ne (by omega), sI_ne (by omega), sI_ne (by omega), sI_ne (by omega)]
  refine ⟨⟨⟨?_, fun d hd => ?_, fun d p hd hp => ?_, fun d hd => ?_⟩, iQR_of h.2.1 (f _ _ (by omega) (by omega) (by omega)) (fun a i h1 h2 => ⟨f a i (by omega) (by omega) (by omega), rfl⟩), iSR_of h.2.2.1 (fun i h1 h2 => ⟨f _ i (by omega) (by omega) (by omega), rfl⟩), iRR_of h.2.2.2 (fun i h1 => f _ i (by omega) (by omega) (by omega)) (fun a i h1 h2 => ⟨f a i (by omega) (by omega) (by omega), rfl⟩)⟩, fun a i ha => ⟨f a i (by omega) (by omega) (by omega), rfl, rfl⟩, ?_⟩
  · simp only [docR]; rw [sI_hit]; rfl
  · by_cases e : d = dn D
    · simp only [docR]; rw [e, sI_ne (by omega), sI_hit]
      show nI 0 = nI (dl D (dn D))
      rw [wd.2.2.1 _ (Nat.le_refl _)]
    · rw [f _ _ (by omega) (by omega) (by omega)]; exact h.1.2.1 d hd
  · rw [f _ _ (by omega) (by omega) (by omega)]; exact h.1.2.2.1 d p hd hp
  · have hd' : d < dn D + 1 := hd
    show _ = nI (upN (dt D) (dn D) t d)
    by_cases e : d = dn D
    · rw [e, up_hit]; simp only [docR]; rw [sI_ne (by omega), sI_ne (by omega), sI_hit]
    · rw [up_ne e, f _ _ (by omega) (by omega) (by omega)]; exact h.1.2.2.2 d (by omega)
  · simp only [docR]; rw [sI_ne (by omega), sI_ne (by omega), sI_ne (by omega), sI_hit]
/-! word -/
def wordD (D : Dg) (w : Nat) : Dg := (dn D, upN (dl D) (dn D - 1) (dl D (dn D - 1) + 1), upN (dw D) (dn D - 1) (upN (dw D (dn D - 1)) (dl D (dn D - 1)) w), dt D)
theorem wordD_l {D : Dg} {w d : Nat} : dl (wordD D w) d = if d = dn D - 1 then dl D (dn D - 1) + 1 else dl D d := rfl
theorem wordD_w {D : Dg} {w : Nat} (wd : wD D) (h0 : 0 < dn D) (hl : dl D (dn D - 1) < 24) (hw : w < 16) : wD (wordD D w) := by
  refine ⟨wd.1, fun d => ?_, fun d hd => ?_, fun d p => ?_, wd.2.2.2.2⟩
  · rw [wordD_l]; have := wd.2.1 d; split <;> omega
  · have hd' : dn D ≤ d := hd
    rw [wordD_l, if_neg (by omega)]; exact wd.2.2.1 d hd'
  · show upN (dw D) (dn D - 1) (upN (dw D (dn D - 1)) (dl D (dn D - 1)) w) d p < 16
    by_cases e : d = dn D - 1
    · rw [e, up_hit]
      by_cases e2 : p = dl D (dn D - 1)
      · rw [e2, up_hit]; exact hw
      · rw [up_ne e2]; exact wd.2.2.2.1 _ p
    · rw [up_ne e]; exact wd.2.2.2.1 d p
theorem wordD_r {D : Dg} {R : Rg} {w : Nat} (wr : wR D R) : wR (wordD D w) R := ⟨wr.1, wr.2.1, fun i hi => ⟨(wr.2.2 i hi).1, by rw [wordD_l]; have := (wr.2.2 i hi).2.1; split <;> omega, (wr.2.2 i hi).2.2⟩⟩
theorem ps_up {f : Nat → Nat} {k x : Nat} : ∀ n, k < n → ps (upN f k x) n + f k = ps f n + x
  | 0, h => by omega
  | n + 1, h => by
    show ps (upN f k x) n + upN f k x n + f k = ps f n + f n + x
    by_cases e : k = n
    · subst e
      rw [up_hit, ps_congr (f := upN f k x) (g := f) k (fun i hi => up_ne (by omega))]; omega
    · rw [up_ne (by omega)]
      have := ps_up (f := f) (x := x) n (show k < n by omega)
      omega
theorem wordD_all {D : Dg} {w : Nat} (h0 : 0 < dn D) : dall (wordD D w) = dall D + 1 := by
  have := ps_up (f := dl D) (k := dn D - 1) (x := dl D (dn D - 1) + 1) (dn D) (by omega)
  show ps (upN (dl D) (dn D - 1) (dl D (dn D - 1) + 1)) (dn D) = ps (dl D) (dn D) + 1
  omega
theorem wordD_x {D : Dg} {w d p : Nat} : dw (wordD D w) d p = if d = dn D - 1 ∧ p = dl D (dn D - 1) then w else dw D d p := by
  show upN (dw D) (dn D - 1) (upN (dw D (dn D - 1)) (dl D (dn D - 1)) w) d p = _
  by_cases e : d = dn D - 1
  · rw [e, up_hit]
    by_cases e2 : p = dl D (dn D - 1)
    · rw [e2, up_hit, if_pos ⟨rfl, rfl⟩]
    · rw [up_ne e2, if_neg (fun q => e2 q.2)]
  · rw [up_ne e, if_neg (fun q => e q.1)]
theorem wordC_ok {D : Dg} {T : Qg} {S : Sg} {R : Rg} {M : ab_M} {w : Nat} (wd : wD D) (h0 : 0 < dn D) (hl : dl D (dn D - 1) < 24) (h : CI D T S R M) : CI (wordD D w) T S R (wordC D w M) ∧ frR M (wordC D w M) := by
  have h12 := wd.1
  have hr := R2 (dn D - 1) (by omega)
  have f : ∀ a i, (a ≠ 3 + (dn D - 1) ∨ i ≠ dl D (dn D - 1)) → (a ≠ 15 ∨ i ≠ dn D - 1) → (a ≠ 1 ∨ i ≠ 4) → (wordC D w M).1 a i = M.1 a i := fun a i h1 h2 h3 => by simp only [wordC]; rw [sI_ne (by omega), sI_ne (by omega), sI_ne (by omega)]
  refine ⟨⟨⟨?_, ?_, fun d hd => ?_, fun d p hd hp => ?_, fun d hd => ?_⟩, iQC_of h.2.1 (fun a i h1 h2 => ⟨f a i (by omega) (by omega) (by omega), rfl⟩), iSC_of h.2.2.1 (fun i _ => ⟨f _ i (by omega) (by omega) (by omega), rfl⟩), iRC_of h.2.2.2 (fun a i h1 h2 => ⟨f a i (by omega) (by omega) (by omega), rfl⟩)⟩, fun a i ha => ⟨f a i (by omega) (by omega) (by omega), rfl, rfl⟩⟩
  · rw [f _ _ (by omega) (by omega) (by omega)]; exact h.1.1
  · simp only [wordC]; rw [sI_hit, wordD_all h0]
  · rw [wordD_l]
    by_cases e : d = dn D - 1
    · rw [if_pos e, e]; simp only [wordC]; rw [sI_ne (by omega), sI_hit]
    · rw [if_neg e, f _ _ (by omega) (by omega) (by omega)]; exact h.1.2.2.1 d hd
  · rw [R2 d hd, wordD_x]
    rw [wordD_l] at hp
    by_cases e : d = dn D - 1
    · rw [if_pos e] at hp
      by_cases e2 : p = dl D (dn D - 1)
      · rw [if_pos ⟨e, e2⟩, e, e2]; simp only [wordC]; rw [sI_ne (by omega), sI_ne (by omega), hr, sI_hit]
      · rw [if_neg (fun q => e2 q.2), f _ _ (by omega) (by omega) (by omega), ← R2 d hd]; exact h.1.2.2.2.1 d p hd (by rw [e]; omega)
    · rw [if_neg e] at hp
      rw [if_neg (fun q => e q.1), f _ _ (by omega) (by omega) (by omega), ← R2 d hd]; exact h.1.2.2.2.1 d p hd hp
  · rw [f _ _ (by omega) (by omega) (by omega)]; exact h.1.2.2.2.2 d hd
theorem wordR_ok {D : Dg} {T : Qg} {S : Sg} {R : Rg} {M : ab_M} {w : Nat} (wd : wD D) (h0 : 0 < dn D) (hl : dl D (dn D - 1) < 24) (h : RI D T S R M) : RI (wordD D w) T S R (wordR D w M) ∧ frC' M (wordR D w M) ∧ (wordR D w M).1 57 0 = nI 0 := by
  have h12 := wd.1
  have f : ∀ a i, (a ≠ 58 ∨ i ≠ 24 * (dn D - 1) + dl D (dn D - 1)) → (a ≠ 59 ∨ i ≠ dn D - 1) → (a ≠ 57 ∨ i ≠ 0) → (wordR D w M).1 a i = M.1 a i := fun a i h1 h2 h3 => by simp only [wordR]; rw [sI_ne (by omega), sI_ne (by omega), sI_ne (by omega)]
  refine ⟨⟨⟨?_, fun d hd => ?_, fun d p hd hp => ?_, fun d hd => ?_⟩, iQR_of h.2.1 (f _ _ (by omega) (by omega) (by omega)) (fun a i h1 h2 => ⟨f a i (by omega) (by omega) (by omega), rfl⟩), iSR_of h.2.2.1 (fun i h1 h2 => ⟨f _ i (by omega) (by omega) (by omega), rfl⟩), iRR_of h.2.2.2 (fun i h1 => f _ i (by omega) (by omega) (by omega)) (fun a i h1 h2 => ⟨f a i (by omega) (by omega) (by omega), rfl⟩)⟩, fun a i ha => ⟨f a i (by omega) (by omega) (by omega), rfl, rfl⟩, ?_⟩
  · rw [f _ _ (by omega) (by omega) (by omega)]; exact h.1.1
  · rw [wordD_l]
    by_cases e : d = dn D - 1
    · rw [if_pos e, e]; simp only [wordR]; rw [sI_hit]
    · rw [if_neg e, f _ _ (by omega) (by omega) (by omega)]; exact h.1.2.1 d hd
  · rw [wordD_x]
    rw [wordD_l] at hp
    have hpl := wd.2.1 d
    by_cases e : d = dn D - 1
    · rw [if_pos e] at hp
      by_cases e2 : p = dl D (dn D - 1)
      · rw [if_pos ⟨e, e2⟩, e, e2]; simp only [wordR]; rw [sI_ne (by omega), sI_hit]
      · rw [if_neg (fun q => e2 q.2), f _ _ (by omega) (by omega) (by omega)]; exact h.1.2.2.1 d p hd (by rw [e]; omega)
    · rw [if_neg e] at hp
      rw [if_neg (fun q => e q.1), f _ _ (by omega) (by omega) (by omega)]; exact h.1.2.2.1 d p hd hp
  · rw [f _ _ (by omega) (by omega) (by omega)]; exact h.1.2.2.2 d hd
  · simp only [wordR]; rw [sI_ne (by omega), sI_ne (by omega), sI_hit]
/-! smooth, clear, token, and the rest -/
theorem smC_ok {D : Dg} {T : Qg} {S : Sg} {R : Rg} {M : ab_M} {h : Nat} {mu : UInt64} (c : CI D T S R M) : CI D T (h, mu) R (smC h mu M) ∧ frR M (smC h mu M) := by
  refine ⟨⟨iDC_of c.1 (fun a i ha => by simp only [smC, sD_1]; rw [sI_ne (by omega)]), iQC_of c.2.1 (fun a i h1 h2 => ⟨by simp only [smC, sD_1]; rw [sI_ne (by omega)], by simp only [smC]; rw [sD_ne (by omega)]; rfl⟩), ⟨by simp only [smC, sD_1]; rw [sI_hit], by simp only [smC]; rw [sD_hit]⟩, iRC_of c.2.2.2 (fun a i h1 h2 => ⟨by simp only [smC, sD_1]; rw [sI_ne (by omega)], by simp only [smC]; rw [sD_ne (by omega)]; rfl⟩)⟩, fun a i ha => ⟨by simp only [smC, sD_1]; rw [sI_ne (by omega)], by simp only [smC]; rw [sD_ne (by omega)]; rfl, rfl⟩⟩
theorem smR_ok {D : Dg} {T : Qg} {S : Sg} {R : Rg} {M : ab_M} {h : Nat} {mu : UInt64} (c : RI D T S R M) : RI D T (h, mu) R (smR h mu M) ∧ frC' M (smR h mu M) ∧ (smR h mu M).1 57 0 = nI 0 := by
  have f : ∀ a i, (a ≠ 57 ∨ (i ≠ 0 ∧ i ≠ 9)) → (smR h mu M).1 a i = M.1 a i := fun a i q => by simp only [smR, sD_1]; rw [sI_ne (by omega), sI_ne (by omega)]
  have g : ∀ a i, (a ≠ 57 ∨ i ≠ 10) → (smR h mu M).2.1 a i = M.2.1 a i := fun a i q => by simp only [smR]; rw [sD_ne (by omega)]; rfl
  refine ⟨⟨iDR_of c.1 (f _ _ (by omega)) (fun a i h1 h2 => f a i (by omega)), iQR_of c.2.1 (f _ _ (by omega)) (fun a i h1 h2 => ⟨f a i (by omega), g a i (by omega)⟩), ⟨by simp only [smR, sD_1]; rw [sI_hit], by simp only [smR]; rw [sD_hit]⟩, iRR_of c.2.2.2 (fun i h1 => f _ i (by omega)) (fun a i h1 h2 => ⟨f a i (by omega), g a i (by omega)⟩)⟩, fun a i ha => ⟨f a i (by omega), g a i (by omega), rfl⟩, by simp only [smR, sD_1]; rw [sI_ne (by omega), sI_hit]⟩
theorem clrC_ok {D : Dg} {T : Qg} {S : Sg} {R : Rg} {M : ab_M} (c : CI D T S R M) : CI D (noQ T) S R (clrC M) ∧ frR M (clrC M) := by
  have f := clr_fr M
  exact ⟨⟨iDC_of c.1 (fun a i ha => (f a i (by omega)).1), clr_qc, iSC_of c.2.2.1 (fun i _ => ⟨(f 22 i (by omega)).1, (f 22 i (by omega)).2.1⟩), iRC_of c.2.2.2 (fun a i h1 h2 => ⟨(f a i (by omega)).1, (f a i (by omega)).2.1⟩)⟩, frR_O f (by omega)⟩
theorem clrR_ok {D : Dg} {T : Qg} {S : Sg} {R : Rg} {M : ab_M} (c : RI D T S R M) : RI D (noQ T) S R (clrR M) ∧ frC' M (clrR M) := by
  have f : ∀ a i, (a ≠ 57 ∨ (i ≠ 0 ∧ i ≠ 8)) → (clrR M).1 a i = M.1 a i := fun a i q => by simp only [clrR]; rw [sI_ne (by omega), sI_ne (by omega)]
  exact ⟨⟨iDR_of c.1 (f _ _ (by omega)) (fun a i h1 h2 => f a i (by omega)), clr_iq, iSR_of c.2.2.1 (fun i h1 h2 => ⟨f _ i (by omega), rfl⟩), iRR_of c.2.2.2 (fun i h1 => f _ i (by omega)) (fun a i h1 h2 => ⟨f a i (by omega), rfl⟩)⟩, fun a i ha => ⟨f a i (by omega), rfl, rfl⟩⟩
theorem tokC_ok {D : Dg} {T T' : Qg} {S : Sg} {R : Rg} {M M' : ab_M} (c : CI D T S R M) (q : iQC T' M') (f : ∀ b i, (b < 17 ∨ 21 < b) ∧ (b < 53 ∨ 56 < b) → M'.1 b i = M.1 b i ∧ M'.2.1 b i = M.2.1 b i ∧ M'.2.2 b i = M.2.2 b i) : CI D T' S R M' ∧ frR M M' :=
  ⟨⟨iDC_of c.1 (fun a i ha => (f a i (by omega)).1), q, iSC_of c.2.2.1 (fun i _ => ⟨(f 22 i (by omega)).1, (f 22 i (by omega)).2.1⟩), iRC_of c.2.2.2 (fun a i h1 h2 => ⟨(f a i (by omega)).1, (f a i (by omega)).2.1⟩)⟩, fun a i ha => f a i (by omega)⟩
theorem tokR_ok {D : Dg} {T : Qg} {S : Sg} {R : Rg} {M : ab_M} {k a : Nat} {w : UInt64} (c : RI D T S R M) : RI D (addQ T k a w) S R (addR T k a w M) ∧ frC' M (addR T k a w M) ∧ (addR T k a w M).1 57 0 = nI 0 := by
  have e : addR T k a w M = adR T k a w (thrM 0 M) := rfl
  have f := ad_fr T k a w (thrM 0 M)
  have t : RI D T S R (thrM 0 M) := RI_thr c
  rw [e]
  refine ⟨⟨iDR_of t.1 (f _ _ (by omega) (by omega)).1 (fun b i h1 h2 => (f b i (by omega) (by omega)).1), adR_i t.2.1, iSR_of t.2.2.1 (fun i h1 h2 => ⟨(f _ i (by omega) (by omega)).1, (f _ i (by omega) (by omega)).2.1⟩), iRR_of t.2.2.2 (fun i h1 => (f _ i (by omega) (by omega)).1) (fun b i h1 h2 => ⟨(f b i (by omega) (by omega)).1, (f b i (by omega) (by omega)).2.1⟩)⟩, fun b i ha => ⟨(f b i (by omega) (by omega)).1.trans (sI_ne (by omega)), (f b i (by omega) (by omega)).2.1, (f b i (by omega) (by omega)).2.2⟩, (f _ _ (by omega) (by omega)).1.trans (sI_hit _ _ _ _)⟩
theorem belC_ok {D : Dg} {T : Qg} {S : Sg} {R : Rg} {M M' : ab_M} (c : CI D T S R M) (f : frO 24 49 M M') : CI D T S R M' ∧ frR M M' := ⟨⟨frO_dc f c.1, frO_qc f c.2.1, frO_sc f c.2.2.1, frO_rc f c.2.2.2⟩, frR_O f (by omega)⟩
theorem seaC_ok {D : Dg} {T : Qg} {S : Sg} {R R' : Rg} {M M' : ab_M} (c : CI D T S R M) (r : iRC R' M') (f : frO 24 52 M M') : CI D T S R' M' ∧ frR M M' := ⟨⟨frO_dc f c.1, frO_qc f c.2.1, frO_sc f c.2.2.1, r⟩, frR_O f (by omega)⟩
/-! a weight or a mu out of the script -/
theorem oct_pos {s : Int32} (h : 0 < fz (FP.dmul (FP.i2d s) 4593671619917905920)) : 0 < s.toInt := by
  refine Int.lt_of_not_ge fun hs => ?_
  have hp := f1_pos
  have h8 : fz 4593671619917905920 * 8 = f1 := by decide +kernel
  have := f_mul_le (fF_i s) fF_8th fF_zero.n (by
    rw [fz_zero, Int.zero_mul, fz_i]
    exact Int.mul_nonpos_of_nonpos_of_nonneg (Int.mul_nonpos_of_nonpos_of_nonneg hs (by omega)) (by omega))
  rw [fz_zero] at this
  omega
theorem oct_le {s : Int32} {m : Nat} (hm : m < 999) (h : fz (FP.dmul (FP.i2d s) 4593671619917905920) * 8 ≤ (m : Int) * f1) : s.toInt ≤ m := by
  refine Int.le_of_not_gt fun hs => ?_
  have hp := f1_pos
  have h8 : fz 4593671619917905920 * 8 = f1 := by decide +kernel
  have ho := oct_z (m + 1) (by omega)
  have e1 : ((m + 1 : Nat) : Int) * f1 = (m : Int) * f1 + f1 := by rw [Int.natCast_add, Int.add_mul]; simp
  have := f_mul_ge (fF_i s) fF_8th (fF_oct (k := m + 1) (by omega)).n (by
    rw [fz_i]
    have a1 : ((m : Int) + 1) * f1 ≤ s.toInt * f1 := Int.mul_le_mul_of_nonneg_right (by omega) (by omega)
    have a2 : ((m : Int) + 1) * f1 * f1 ≤ s.toInt * f1 * f1 := Int.mul_le_mul_of_nonneg_right a1 (by omega)
    have a3 : fz (oct (m + 1)) * f1 * 8 = ((m : Int) + 1) * f1 * f1 := by
      rw [Int.mul_assoc, Int.mul_comm f1 8, ← Int.mul_assoc, ho]; rfl
    have a4 : s.toInt * f1 * fz 4593671619917905920 * 8 = s.toInt * f1 * f1 := by rw [Int.mul_assoc, h8]
    omega)
  omega
theorem i32_nat {s : Int32} (h : 0 ≤ s.toInt) : s = nI s.toInt.toNat := by
  have hn : ¬ s < 0 := by
    intro q
    rw [Int32.lt_iff_toInt_lt, i0_int] at q
    omega
  obtain ⟨j, h1, h2⟩ := nI_of hn
  rw [h2, nI_toInt h1]; rfl
