/-! belief and search (rows laid by gen/m15.py) -/
theorem frO_hj {M M1 M2 : ab_M} (h : frH M M1) (j : frJ M1 M2) : frO 24 49 M M2 := fun a i ha => ⟨by rw [j.1]; exact h.2 a i (by omega), by rw [j.2.2 a i (by omega), h.1], by rw [j.2.1, h.1]⟩
theorem frO_dc {D : Dg} {M M' : ab_M} {hi : Nat} (h : frO 24 hi M M') (x : iDC D M) : iDC D M' := iDC_of x (fun a i ha => (h a i (by omega)).1)
theorem frO_qc {T : Qg} {M M' : ab_M} {hi : Nat} (h : frO 24 hi M M') (x : iQC T M) : iQC T M' := iQC_of x (fun a i h1 h2 => ⟨(h a i (by omega)).1, (h a i (by omega)).2.1⟩)
theorem frO_sc {S : Sg} {M M' : ab_M} {hi : Nat} (h : frO 24 hi M M') (x : iSC S M) : iSC S M' := iSC_of x (fun i _ => ⟨(h 22 i (by omega)).1, (h 22 i (by omega)).2.1⟩)
theorem frO_rc {R : Rg} {M M' : ab_M} (h : frO 24 49 M M') (x : iRC R M) : iRC R M' := iRC_of x (fun a i h1 h2 => ⟨(h a i (by omega)).1, (h a i (by omega)).2.1⟩)
theorem frJ_dc {D : Dg} {M M' : ab_M} (h : frJ M M') (x : iDC D M) : iDC D M' := iDC_of x (fun a i _ => by rw [h.1])
theorem frJ_qc {T : Qg} {M M' : ab_M} (h : frJ M M') (x : iQC T M) : iQC T M' := iQC_of x (fun a i h1 h2 => ⟨by rw [h.1], h.2.2 a i (by omega)⟩)
theorem frJ_sc {S : Sg} {M M' : ab_M} (h : frJ M M') (x : iSC S M) : iSC S M' := iSC_of x (fun i _ => ⟨by rw [h.1], h.2.2 22 i (by omega)⟩)
theorem frJ_rc {R : Rg} {M M' : ab_M} (h : frJ M M') (x : iRC R M) : iRC R M' := iRC_of x (fun a i h1 h2 => ⟨by rw [h.1], h.2.2 a i (by omega)⟩)
theorem frJ_hm {T : Qg} {D : Dg} {M M' : ab_M} {t : Nat} (h : frJ M M') (x : hitM T D M t) : hitM T D M' t := ⟨by rw [h.1]; exact x.1, fun d hd => by rw [h.1]; exact x.2 d hd⟩
theorem frH_dc {D : Dg} {M M' : ab_M} (h : frH M M') (x : iDC D M) : iDC D M' := iDC_of x (fun a i _ => h.2 a i (by omega))
theorem frH_qc {T : Qg} {M M' : ab_M} (h : frH M M') (x : iQC T M) : iQC T M' := iQC_of x (fun a i h1 h2 => ⟨h.2 a i (by omega), by rw [h.1]⟩)
theorem frH_sc {S : Sg} {M M' : ab_M} (h : frH M M') (x : iSC S M) : iSC S M' := iSC_of x (fun i _ => ⟨h.2 22 i (by omega), by rw [h.1]⟩)
theorem qn_pos {T : Qg} (h0 : op T (qn T) = 0) : 0 < qn T := by
  rcases Nat.eq_zero_or_pos (qn T) with h | h
  · rw [h] at h0; exact absurd h0 (by show ¬ 1 = 0; omega)
  · exact h
/-- a document comes into the ranking -/
def stepR (S : Sg) (T : Qg) (D : Dg) (R : Rg) (d : Nat) : Rg := if outB T D (bl S T D d (qn T)) d then (rn R, ro R + 1, rd R, rb R) else insR R d (bl S T D d (qn T) 0)
def rkS (S : Sg) (T : Qg) (D : Dg) : Nat → Rg
  | 0 => (0, 0, fun _ => 0, fun _ => 0)
  | d + 1 => if dl D d = 0 then rkS S T D d else stepR S T D (rkS S T D d) d
def srR (S : Sg) (T : Qg) (D : Dg) (k : Nat) : Rg := (min (rn (rkS S T D (dn D))) k, ro (rkS S T D (dn D)), rd (rkS S T D (dn D)), rb (rkS S T D (dn D)))
theorem stepR_n (S : Sg) (T : Qg) (D : Dg) (R : Rg) (d : Nat) : rn (stepR S T D R d) + ro (stepR S T D R d) = rn R + ro R + 1 := by
  simp only [stepR]
  split
  · show rn R + (ro R + 1) = _; omega
  · show rn R + 1 + ro R = _; omega
theorem rkS_n (S : Sg) (T : Qg) (D : Dg) : ∀ d, rn (rkS S T D d) + ro (rkS S T D d) ≤ d
  | 0 => by show 0 + 0 ≤ 0; omega
  | d + 1 => by
    have := rkS_n S T D d
    have h2 := stepR_n S T D (rkS S T D d) d
    simp only [rkS]
    split <;> omega
theorem rkS_ok {S : Sg} {T : Qg} {D : Dg} (ws : wS S) (wd : wD D) (wq : wQ T) (h0 : op T (qn T) = 0) : ∀ d, d ≤ dn D → ∀ i, i < rn (rkS S T D d) → rd (rkS S T D d) i < dn D ∧ 0 < dl D (rd (rkS S T D d) i) ∧ f01 (rb (rkS S T D d) i)
  | 0, _, i, h => absurd h (by show ¬ i < 0; omega)
  | d + 1, hd, i, h => by
    have ih := rkS_ok ws wd wq h0 d (by omega)
    simp only [rkS] at h ⊢
    by_cases hz : dl D d = 0
    · rw [if_pos hz] at h ⊢; exact ih i h
    · rw [if_neg hz] at h ⊢
      simp only [stepR] at h ⊢
      split
      · rename_i ho
        rw [if_pos ho] at h
        exact ih i h
      · rename_i ho
        rw [if_neg ho] at h
        have hi : i < rn (rkS S T D d) + 1 := h
        generalize rpos (bl S T D d (qn T) 0) (rb (rkS S T D d)) (rn (rkS S T D d)) = p at *
        have hp := rpos_le (bl S T D d (qn T) 0) (rb (rkS S T D d)) (rn (rkS S T D d))
        show insF _ _ _ i < _ ∧ 0 < dl D (insF _ _ _ i) ∧ f01 (insF _ _ _ i)
        rcases Nat.lt_trichotomy i (rpos (bl S T D d (qn T) 0) (rb (rkS S T D d)) (rn (rkS S T D d))) with e | e | e
        · rw [insF_lo e, insF_lo e]; exact ih i (by omega)
        · subst e
          rw [insF_at, insF_at]
          exact ⟨by omega, by omega, bl_01 ws wd wq h0 (by omega) (by omega) _ (Nat.le_refl _) 0 (by omega) (qn_pos h0)⟩
        · rw [insF_hi e, insF_hi e]; exact ih (i - 1) (by omega)
theorem srR_ok {S : Sg} {T : Qg} {D : Dg} (ws : wS S) (wd : wD D) (wq : wQ T) (h0 : op T (qn T) = 0) (k : Nat) : wR D (srR S T D k) := by
  have h1 := rkS_n S T D (dn D)
  have h2 := wd.1
  refine ⟨?_, ?_, fun i hi => rkS_ok ws wd wq h0 (dn D) (Nat.le_refl _) i ?_⟩
  · show min _ _ ≤ 12; omega
  · show ro (rkS S T D (dn D)) ≤ 12; omega
  · have : i < min (rn (rkS S T D (dn D))) k := hi
    omega
def frK (M M' : ab_M) : Prop := (∀ a i, a ≠ 50 → a ≠ 51 → M'.1 a i = M.1 a i) ∧ (∀ a i, a ≠ 49 → a ≠ 52 → M'.2.1 a i = M.2.1 a i) ∧ M'.2.2 = M.2.2
theorem frK_o {M M1 M2 : ab_M} (h : frO 24 52 M M1) (k : frK M1 M2) : frO 24 52 M M2 := fun a i ha => ⟨(k.1 a i (by omega) (by omega)).trans (h a i ha).1, (k.2.1 a i (by omega) (by omega)).trans (h a i ha).2.1, by rw [k.2.2]; exact (h a i ha).2.2⟩
theorem frK_hm {T : Qg} {D : Dg} {M M' : ab_M} {t : Nat} (ht : t < 24) (h : frK M M') (x : hitM T D M t) : hitM T D M' t := ⟨by rw [h.1 _ _ (by omega) (by omega)]; exact x.1, fun d hd => by rw [h.1 _ _ (by omega) (by omega)]; exact x.2 d hd⟩
theorem kp_w : ∀ c ∈ [Cond.methodLink "BeliefForge$Ranking" 26 Lib.Math.min.name, Cond.static Lib.Math.min.name, Cond.initialized "java/lang/Math", Cond.code Lib.Math.min.name Lib.Math.min.code 2 (some .int)], c ∈ sysW := by decide +kernel
theorem nI_min {a b : Nat} (ha : a < 2147483648) (hb : b < 2147483648) : (if nI b < nI a then nI b else nI a) = nI (min a b) := by
  rw [Nat.min_def]
  by_cases h : b < a
  · rw [if_pos ((nI_ltI (by omega) (by omega)).mpr h), if_neg (by omega)]
  · rw [if_neg (fun q => h ((nI_ltI (by omega) (by omega)).mp q)), if_pos (by omega)]

set_option maxRecDepth 4000 in
theorem C_belief_bad {l : Launch} {M : ab_M} {Q : ab_O → ab_M → Prop} (hl : l.stackTraces = false) {D : Dg} {T : Qg} {S : Sg} (wd : wD D) (dc : iDC D M) (wq : wQ T) (qc : iQC T M) (ws : wS S) (sc : iSC S M) {x : Int32} (hb : x.toInt < 0 ∨ (dn D : Int) ≤ x.toInt) (hQ : Q (.inr "java/lang/IndexOutOfBoundsException") M) : AW sys l ab_Zt k_BF_belief 7 162 0 [(0, .ref (0)), (1, .int (x))] [] M 0 0 Q := by
  have h12 := wd.1
  have h24 := wq.1
  have hop := op_le (T := T) (qn T) (fun t h => wq.2.1 t h)
  refine aw_aload_n d_BF_belief_0 rfl 0 rfl ?_
  refine aw_get (ic := 0) (ci := 0) (k := 0) (v := .ref 1) d_BF_belief_1 rfl rfl (by decide) rfl mw_189 rfl ?_
  refine aw_iload_n d_BF_belief_4 rfl 1 rfl ?_
  refine aw_callV (K' := k_TX_has) (As := [.int (x)]) (rest := []) (b := 1) d_BF_belief_5 rfl rfl rfl cs_BF_135 rfl (Nat.le_of_ble_eq_true rfl) (Nat.le_of_ble_eq_true rfl) (by decide) (by decide) (d' := 0) (w' := 0) (by decide) (by decide) ?_
  show AW _ _ _ _ _ _ _ [(0, .ref (1)), (1, .int (x))] _ _ _ _ _
  refine aw_iload_n d_TX_has_0 rfl 1 rfl ?_
  refine az_lt rfl (tgt := 16) d_TX_has_1 (by decide) (fun c1 => ?_) (fun c1 => ?_)
  · skip
    refine aw_iconst (v := nI 0) d_TX_has_16 (by decide) ?_
    refine aw_zret (Or.inl rfl) d_TX_has_17 rfl (by decide) (by decide) (ab_go1 ?_)
    refine aw_if_eqN (tgt := 22) d_BF_belief_8 (by decide) (by omega) (fun c2 => ?_) (fun c2 => ?_)
    · skip
      refine th_IOO hl rfl d_BF_belief_22 d_BF_belief_25 d_BF_belief_26 d_BF_belief_28 d_BF_belief_31 (List.mem_of_getElem? (i := 10) rfl) rfl (by decide) (by decide) (by decide) (by decide) ?_
      exact hQ
    · skip
      exact absurd c2 (by decide)
  · skip
    refine aw_iload_n d_TX_has_4 rfl 1 rfl ?_
    refine aw_aload_n d_TX_has_5 rfl 0 rfl ?_
    refine aw_get (ic := 1) (ci := 1) (k := 3) d_TX_has_6 rfl rfl (by decide) rfl mw_72 rfl ?_
    refine aw_eqi (nI (dn D)) dc.1 ?_
    refine at_ge rfl (nI_toInt (by omega)) (tgt := 16) d_TX_has_9 (by decide) (fun c3 => ?_) (fun c3 => ?_)
    · skip
      refine aw_iconst (v := nI 0) d_TX_has_16 (by decide) ?_
      refine aw_zret (Or.inl rfl) d_TX_has_17 rfl (by decide) (by decide) (ab_go1 ?_)
      refine aw_if_eqN (tgt := 22) d_BF_belief_8 (by decide) (by omega) (fun c4 => ?_) (fun c4 => ?_)
      · skip
        refine th_IOO hl rfl d_BF_belief_22 d_BF_belief_25 d_BF_belief_26 d_BF_belief_28 d_BF_belief_31 (List.mem_of_getElem? (i := 10) rfl) rfl (by decide) (by decide) (by decide) (by decide) ?_
        exact hQ
      · skip
        exact absurd c4 (by decide)
    · skip
      refine aw_iconst (v := nI 1) d_TX_has_12 (by decide) ?_
      refine aw_goto (tgt := 17) d_TX_has_13 (by decide) ?_
      refine aw_zret (Or.inr rfl) d_TX_has_17 rfl (by decide) (by decide) (ab_go1 ?_)
      refine aw_if_eqN (tgt := 22) d_BF_belief_8 (by decide) (by omega) (fun c5 => ?_) (fun c5 => ?_)
      · skip
        exact absurd c5 (by decide)
      · skip
        exfalso; omega
set_option maxRecDepth 4000 in
theorem C_belief {l : Launch} {M : ab_M} {Q : ab_O → ab_M → Prop} (hl : l.stackTraces = false) {D : Dg} {T : Qg} {S : Sg} (wd : wD D) (dc : iDC D M) (wq : wQ T) (qc : iQC T M) (ws : wS S) (sc : iSC S M) {d : Nat} (hd : d < dn D) (hE : dl D d = 0 → Q (.inr "java/lang/IndexOutOfBoundsException") M) (hF : 0 < dl D d → op T (qn T) ≠ 0 → Q (.inr "java/lang/IllegalStateException") M) (hG : 0 < dl D d → op T (qn T) = 0 → outB T D (bl S T D d (qn T)) d = true → ∀ M', frO 24 49 M M' → Q (.inr "java/util/NoSuchElementException") M') (hO : 0 < dl D d → op T (qn T) = 0 → outB T D (bl S T D d (qn T)) d = false → ∀ M', frO 24 49 M M' → Q (.inl (some (.double (bl S T D d (qn T) 0)))) M') : AW sys l ab_Zt k_BF_belief 7 162 0 [(0, .ref (0)), (1, .int (nI (d)))] [] M 0 0 Q := by
  have h12 := wd.1
  have h24 := wq.1
  have hop := op_le (T := T) (qn T) (fun t h => wq.2.1 t h)
  have hl24 := wd.2.1 d
  refine aw_aload_n d_BF_belief_0 rfl 0 rfl ?_
  refine aw_get (ic := 0) (ci := 0) (k := 0) (v := .ref 1) d_BF_belief_1 rfl rfl (by decide) rfl mw_189 rfl ?_
  refine aw_iload_n d_BF_belief_4 rfl 1 rfl ?_
  refine aw_callV (K' := k_TX_has) (As := [.int (nI (d))]) (rest := []) (b := 1) d_BF_belief_5 rfl rfl rfl cs_BF_135 rfl (Nat.le_of_ble_eq_true rfl) (Nat.le_of_ble_eq_true rfl) (by decide) (by decide) (d' := 0) (w' := 0) (by decide) (by decide) ?_
  show AW _ _ _ _ _ _ _ [(0, .ref (1)), (1, .int (nI (d)))] _ _ _ _ _
  refine aw_iload_n d_TX_has_0 rfl 1 rfl ?_
  refine aw_if_lt (tgt := 16) d_TX_has_1 (by decide) (fun c1 => ?_) (fun c1 => ?_)
  · skip
    exact absurd c1 (nI_pos (by omega))
  · skip
    refine aw_iload_n d_TX_has_4 rfl 1 rfl ?_
    refine aw_aload_n d_TX_has_5 rfl 0 rfl ?_
    refine aw_get (ic := 1) (ci := 1) (k := 3) d_TX_has_6 rfl rfl (by decide) rfl mw_72 rfl ?_
    refine aw_eqi (nI (dn D)) dc.1 ?_
    refine aw_icmp_geN (tgt := 16) d_TX_has_9 (by decide) (by omega) (by omega) (fun c2 => ?_) (fun c2 => ?_)
    · skip
      refine aw_iconst (v := nI 0) d_TX_has_16 (by decide) ?_
      refine aw_zret (Or.inl rfl) d_TX_has_17 rfl (by decide) (by decide) (ab_go1 ?_)
      refine aw_if_eqN (tgt := 22) d_BF_belief_8 (by decide) (by omega) (fun c3 => ?_) (fun c3 => ?_)
      · skip
        refine th_IOO hl rfl d_BF_belief_22 d_BF_belief_25 d_BF_belief_26 d_BF_belief_28 d_BF_belief_31 (List.mem_of_getElem? (i := 10) rfl) rfl (by decide) (by decide) (by decide) (by decide) ?_
        first | exact hE (by omega) | (exfalso; omega)
      · skip
        exact absurd c3 (by decide)
    · skip
      refine aw_iconst (v := nI 1) d_TX_has_12 (by decide) ?_
      refine aw_goto (tgt := 17) d_TX_has_13 (by decide) ?_
      refine aw_zret (Or.inr rfl) d_TX_has_17 rfl (by decide) (by decide) (ab_go1 ?_)
      refine aw_if_eqN (tgt := 22) d_BF_belief_8 (by decide) (by omega) (fun c4 => ?_) (fun c4 => ?_)
      · skip
        exact absurd c4 (by decide)
      · skip
        refine aw_aload_n d_BF_belief_11 rfl 0 rfl ?_
        refine aw_get (ic := 0) (ci := 0) (k := 0) (v := .ref 1) d_BF_belief_12 rfl rfl (by decide) rfl mw_189 rfl ?_
        refine aw_iload_n d_BF_belief_15 rfl 1 rfl ?_
        refine aw_callV (K' := k_TX_lengthOf) (As := [.int (nI (d))]) (rest := []) (b := 1) d_BF_belief_16 rfl rfl rfl cs_BF_138 rfl (Nat.le_of_ble_eq_true rfl) (Nat.le_of_ble_eq_true rfl) (by decide) (by decide) (d' := 0) (w' := 0) (by decide) (by decide) ?_
        show AW _ _ _ _ _ _ _ [(0, .ref (1)), (1, .int (nI (d)))] _ _ _ _ _
        refine aw_aload_n d_TX_lengthOf_0 rfl 0 rfl ?_
        refine aw_get (ic := 1) (ci := 1) (k := 1) (v := .ref 15) d_TX_lengthOf_1 rfl rfl (by decide) rfl mw_70 rfl ?_
        refine aw_iload_n d_TX_lengthOf_4 rfl 1 rfl ?_
        refine aw_ialdN d_TX_lengthOf_5 rfl (by decide) (by omega) ?_
        refine aw_eqi (nI (dl D d)) (dc.2.2.1 _ (by omega)) ?_
        refine aw_iret d_TX_lengthOf_6 rfl (by decide) (by decide) (ab_go1 ?_)
        refine aw_if_neN (tgt := 32) d_BF_belief_19 (by decide) (by omega) (fun c5 => ?_) (fun c5 => ?_)
        · skip
          refine aw_aload_n d_BF_belief_32 rfl 0 rfl ?_
          refine aw_get (ic := 0) (ci := 0) (k := 1) (v := .ref 17) d_BF_belief_33 rfl rfl (by decide) rfl mw_190 rfl ?_
          refine aw_callV (K' := k_QU_isWhole) (As := []) (rest := []) (b := 17) d_BF_belief_36 rfl rfl rfl cs_BF_109 rfl (Nat.le_of_ble_eq_true rfl) (Nat.le_of_ble_eq_true rfl) (by decide) (by decide) (d' := 0) (w' := 0) (by decide) (by decide) ?_
          show AW _ _ _ _ _ _ _ [(0, .ref (17))] _ _ _ _ _
          refine aw_aload_n d_QU_isWhole_0 rfl 0 rfl ?_
          refine aw_get (ic := 17) (ci := 2) (k := 5) d_QU_isWhole_1 rfl rfl (by decide) rfl mw_97 rfl ?_
          refine aw_eqi (nI (op T (qn T))) qc.2.2.2.2.1 ?_
          refine aw_if_neN (tgt := 11) d_QU_isWhole_4 (by decide) (by omega) (fun c6 => ?_) (fun c6 => ?_)
          · skip
            refine aw_iconst (v := nI 0) d_QU_isWhole_11 (by decide) ?_
            refine aw_zret (Or.inl rfl) d_QU_isWhole_12 rfl (by decide) (by decide) (ab_go1 ?_)
            refine aw_if_neN (tgt := 52) d_BF_belief_39 (by decide) (by omega) (fun c7 => ?_) (fun c7 => ?_)
            · skip
              exact absurd c7 (by decide)
            · skip
              refine th_ISE hl rfl d_BF_belief_42 d_BF_belief_45 d_BF_belief_46 d_BF_belief_48 d_BF_belief_51 (List.mem_of_getElem? (i := 11) rfl) rfl (by decide) (by decide) (by decide) (by decide) ?_
              exact hF (by omega) (by omega)
          · skip
            refine aw_iconst (v := nI 1) d_QU_isWhole_7 (by decide) ?_
            refine aw_goto (tgt := 12) d_QU_isWhole_8 (by decide) ?_
            refine aw_zret (Or.inr rfl) d_QU_isWhole_12 rfl (by decide) (by decide) (ab_go1 ?_)
            refine aw_if_neN (tgt := 52) d_BF_belief_39 (by decide) (by omega) (fun c8 => ?_) (fun c8 => ?_)
            · skip
              refine aw_aload_n d_BF_belief_52 rfl 0 rfl ?_
              refine aw_get (ic := 0) (ci := 0) (k := 2) (v := .ref 22) d_BF_belief_53 rfl rfl (by decide) rfl mw_191 rfl ?_
              refine aw_callV (K' := k_NE_countHits) (As := []) (rest := []) (b := 22) d_BF_belief_56 rfl rfl rfl cs_BF_148 rfl (Nat.le_of_ble_eq_true rfl) (Nat.le_of_ble_eq_true rfl) (by decide) (by decide) (d' := 6) (w' := 141) (by decide) (by decide) ?_
              show AW _ _ _ _ _ _ _ [(0, .ref (22))] _ _ _ _ _
              refine A_countHits wd dc wq qc (by omega) (fun M1 f1' c1' => ?_)
              refine ab_go0 ?_
              refine aw_aload_n d_BF_belief_59 rfl 0 rfl ?_
              refine aw_get (ic := 0) (ci := 0) (k := 2) (v := .ref 22) d_BF_belief_60 rfl rfl (by decide) rfl mw_191 rfl ?_
              refine aw_iload_n d_BF_belief_63 rfl 1 rfl ?_
              refine aw_callV (K' := k_NE_judge) (As := [.int (nI (d))]) (rest := []) (b := 22) d_BF_belief_64 rfl rfl rfl cs_BF_151 rfl (Nat.le_of_ble_eq_true rfl) (Nat.le_of_ble_eq_true rfl) (by decide) (by decide) (d' := 4) (w' := 94) (by decide) (by decide) ?_
              show AW _ _ _ _ _ _ _ [(0, .ref (22)), (1, .int (nI (d)))] _ _ _ _ _
              refine A_judge wd (frH_dc f1' dc) wq (frH_qc f1' qc) ws (frH_sc f1' sc) (by omega) hd (by omega) c1' (fun M2 f2 b2 => ?_)
              refine ab_go0 ?_
              refine aw_aload_n d_BF_belief_67 rfl 0 rfl ?_
              refine aw_get (ic := 0) (ci := 0) (k := 2) (v := .ref 22) d_BF_belief_68 rfl rfl (by decide) rfl mw_191 rfl ?_
              refine aw_iload_n d_BF_belief_71 rfl 1 rfl ?_
              refine aw_callV (K' := k_NE_leavesOut) (As := [.int (nI (d))]) (rest := []) (b := 22) d_BF_belief_72 rfl rfl rfl cs_BF_155 rfl (Nat.le_of_ble_eq_true rfl) (Nat.le_of_ble_eq_true rfl) (by decide) (by decide) (d' := 2) (w' := 43) (by decide) (by decide) ?_
              show AW _ _ _ _ _ _ _ [(0, .ref (22)), (1, .int (nI (d)))] _ _ _ _ _
              refine A_leavesOut (B := bl S T D d (qn T)) wd (frJ_dc f2 (frH_dc f1' dc)) wq (frJ_qc f2 (frH_qc f1' qc)) (by omega) (fun i hi => ⟨b2 i hi, bl_01 ws wd wq (by omega) hd (by omega) _ (Nat.le_refl _) i (by omega) hi⟩) hd (fun t ht hk => frJ_hm f2 (c1' t ht hk)) ?_
              refine ab_go1 ?_
              refine aw_if_eqB (tgt := 88) d_BF_belief_75 (by decide) (fun c9 => ?_) (fun c9 => ?_)
              · skip
                refine aw_aload_n d_BF_belief_88 rfl 0 rfl ?_
                refine aw_get (ic := 0) (ci := 0) (k := 2) (v := .ref 22) d_BF_belief_89 rfl rfl (by decide) rfl mw_191 rfl ?_
                refine aw_callV (K' := k_NE_judgement) (As := []) (rest := []) (b := 22) d_BF_belief_92 rfl rfl rfl cs_BF_163 rfl (Nat.le_of_ble_eq_true rfl) (Nat.le_of_ble_eq_true rfl) (by decide) (by decide) (d' := 0) (w' := 0) (by decide) (by decide) ?_
                show AW _ _ _ _ _ _ _ [(0, .ref (22))] _ _ _ _ _
                refine aw_aload_n d_NE_judgement_0 rfl 0 rfl ?_
                refine aw_get (ic := 22) (ci := 3) (k := 4) (v := .ref 49) d_NE_judgement_1 rfl rfl (by decide) rfl mw_127 rfl ?_
                refine aw_iconst (v := nI 0) d_NE_judgement_4 (by decide) ?_
                refine aw_daldN d_NE_judgement_5 rfl (by decide) (by omega) ?_
                refine aw_eqd (bl S T D d (qn T) 0) (b2 0 (qn_pos (by omega))) ?_
                refine aw_dret d_NE_judgement_6 rfl (by decide) (by decide) (ab_go1 ?_)
                refine aw_dret d_BF_belief_95 rfl (by decide) (by decide) ?_
                exact hO (by omega) (by omega) c9 _ (frO_hj f1' f2)
              · skip
                refine th_NSE hl rfl d_BF_belief_78 d_BF_belief_81 d_BF_belief_82 d_BF_belief_84 d_BF_belief_87 (List.mem_of_getElem? (i := 12) rfl) rfl (by decide) (by decide) (by decide) (by decide) ?_
                exact hG (by omega) (by omega) c9 _ (frO_hj f1' f2)
            · skip
              exact absurd c8 (by decide)
        · skip
          refine th_IOO hl rfl d_BF_belief_22 d_BF_belief_25 d_BF_belief_26 d_BF_belief_28 d_BF_belief_31 (List.mem_of_getElem? (i := 10) rfl) rfl (by decide) (by decide) (by decide) (by decide) ?_
          first | exact hE (by omega) | (exfalso; omega)
set_option maxRecDepth 4000 in
theorem A_rank {l : Launch} {M : ab_M} {Q : ab_O → ab_M → Prop} {D : Dg} {T : Qg} {S : Sg} (wd : wD D) (dc : iDC D M) (wq : wQ T) (qc : iQC T M) (ws : wS S) (sc : iSC S M) {R : Rg} (rc : iRC R M) (hn : rn R < 12) (hro : ro R < 12) (hf9 : ∀ i, i < rn R → fF (rb R i)) {d : Nat} (hd : d < dn D) (hld : 0 < dl D d) (h0 : op T (qn T) = 0) (hh : ∀ t, t < qn T → qk T t ≤ 4 → hitM T D M t) (hQ : ∀ M', frK M M' → iRC (stepR S T D R d) M' → Q (.inl none) M') : AW sys l ab_Zt k_BF_rank 5 116 0 [(0, .ref (0)), (1, .int (nI (d)))] [] M 0 0 Q := by
  have h12 := wd.1
  have h24 := wq.1
  refine aw_aload_n d_BF_rank_0 rfl 0 rfl ?_
  refine aw_get (ic := 0) (ci := 0) (k := 2) (v := .ref 22) d_BF_rank_1 rfl rfl (by decide) rfl mw_191 rfl ?_
  refine aw_iload_n d_BF_rank_4 rfl 1 rfl ?_
  refine aw_callV (K' := k_NE_judge) (As := [.int (nI (d))]) (rest := []) (b := 22) d_BF_rank_5 rfl rfl rfl cs_BF_151 rfl (Nat.le_of_ble_eq_true rfl) (Nat.le_of_ble_eq_true rfl) (by decide) (by decide) (d' := 4) (w' := 94) (by decide) (by decide) ?_
  show AW _ _ _ _ _ _ _ [(0, .ref (22)), (1, .int (nI (d)))] _ _ _ _ _
  refine A_judge wd dc wq qc ws sc h0 hd hld hh (fun M2 f2 b2 => ?_)
  refine ab_go0 ?_
  refine aw_aload_n d_BF_rank_8 rfl 0 rfl ?_
  refine aw_get (ic := 0) (ci := 0) (k := 2) (v := .ref 22) d_BF_rank_9 rfl rfl (by decide) rfl mw_191 rfl ?_
  refine aw_iload_n d_BF_rank_12 rfl 1 rfl ?_
  refine aw_callV (K' := k_NE_leavesOut) (As := [.int (nI (d))]) (rest := []) (b := 22) d_BF_rank_13 rfl rfl rfl cs_BF_155 rfl (Nat.le_of_ble_eq_true rfl) (Nat.le_of_ble_eq_true rfl) (by decide) (by decide) (d' := 2) (w' := 43) (by decide) (by decide) ?_
  show AW _ _ _ _ _ _ _ [(0, .ref (22)), (1, .int (nI (d)))] _ _ _ _ _
  refine A_leavesOut (B := bl S T D d (qn T)) wd (frJ_dc f2 dc) wq (frJ_qc f2 qc) h0 (fun i hi => ⟨b2 i hi, bl_01 ws wd wq h0 hd hld _ (Nat.le_refl _) i (by omega) hi⟩) hd (fun t ht hk => frJ_hm f2 (hh t ht hk)) ?_
  refine ab_go1 ?_
  refine aw_if_eqB (tgt := 29) d_BF_rank_16 (by decide) (fun c1 => ?_) (fun c1 => ?_)
  · skip
    refine aw_aload_n d_BF_rank_29 rfl 0 rfl ?_
    refine aw_get (ic := 0) (ci := 0) (k := 3) (v := .ref 50) d_BF_rank_30 rfl rfl (by decide) rfl mw_192 rfl ?_
    refine aw_iload_n d_BF_rank_33 rfl 1 rfl ?_
    refine aw_aload_n d_BF_rank_34 rfl 0 rfl ?_
    refine aw_get (ic := 0) (ci := 0) (k := 2) (v := .ref 22) d_BF_rank_35 rfl rfl (by decide) rfl mw_191 rfl ?_
    refine aw_callV (K' := k_NE_judgement) (As := []) (rest := [.int (nI (d)), .ref (50)]) (b := 22) d_BF_rank_38 rfl rfl rfl cs_BF_163 rfl (Nat.le_of_ble_eq_true rfl) (Nat.le_of_ble_eq_true rfl) (by decide) (by decide) (d' := 0) (w' := 0) (by decide) (by decide) ?_
    show AW _ _ _ _ _ _ _ [(0, .ref (22))] _ _ _ _ _
    refine aw_aload_n d_NE_judgement_0 rfl 0 rfl ?_
    refine aw_get (ic := 22) (ci := 3) (k := 4) (v := .ref 49) d_NE_judgement_1 rfl rfl (by decide) rfl mw_127 rfl ?_
    refine aw_iconst (v := nI 0) d_NE_judgement_4 (by decide) ?_
    refine aw_daldN d_NE_judgement_5 rfl (by decide) (by omega) ?_
    refine aw_eqd (bl S T D d (qn T) 0) (b2 0 (qn_pos h0)) ?_
    refine aw_dret d_NE_judgement_6 rfl (by decide) (by decide) (ab_go1 ?_)
    refine aw_callV (K' := k_RA_put) (As := [.int (nI (d)), .double (bl S T D d (qn T) 0)]) (rest := []) (b := 50) d_BF_rank_41 rfl rfl rfl cs_BF_238 rfl (Nat.le_of_ble_eq_true rfl) (Nat.le_of_ble_eq_true rfl) (by decide) (by decide) (d' := 0) (w' := 0) (by decide) (by decide) ?_
    show AW _ _ _ _ _ _ _ [(0, .ref (50)), (1, .int (nI (d))), (2, .double (bl S T D d (qn T) 0))] _ _ _ _ _
    refine A_put hn (frJ_rc f2 rc) (bl_01 ws wd wq h0 hd hld _ (Nat.le_refl _) 0 (by omega) (qn_pos h0)).1 hf9 (fun M3 f3 r3 => ?_)
    refine ab_go0 ?_
    refine aw_vret d_BF_rank_44 rfl (by decide) (by decide) ?_
    exact hQ _ ⟨fun a i h1 h2 => by rw [f3.1 a i (by omega) (by omega), f2.1], fun a i h1 h2 => by rw [f3.2.1 a i h2]; exact f2.2.2 a i h1, by rw [f3.2.2]; exact f2.2.1⟩ (by simp only [stepR]; rw [if_neg (by rw [c1]; decide)]; exact r3)
  · skip
    refine aw_aload_n d_BF_rank_19 rfl 0 rfl ?_
    refine aw_get (ic := 0) (ci := 0) (k := 3) (v := .ref 50) d_BF_rank_20 rfl rfl (by decide) rfl mw_192 rfl ?_
    refine aw_callV (K' := k_RA_leaveOut) (As := []) (rest := []) (b := 50) d_BF_rank_23 rfl rfl rfl cs_BF_235 rfl (Nat.le_of_ble_eq_true rfl) (Nat.le_of_ble_eq_true rfl) (by decide) (by decide) (d' := 0) (w' := 0) (by decide) (by decide) ?_
    show AW _ _ _ _ _ _ _ [(0, .ref (50))] _ _ _ _ _
    refine aw_aload_n d_RA_leaveOut_0 rfl 0 rfl ?_
    refine aw_dup d_RA_leaveOut_1 rfl ?_
    refine aw_get (ic := 50) (ci := 4) (k := 3) d_RA_leaveOut_2 rfl rfl (by decide) rfl mw_154 rfl ?_
    refine aw_eqi (nI (ro R)) (frJ_rc f2 rc).2.1 ?_
    refine aw_iconst (v := nI 1) d_RA_leaveOut_5 (by decide) ?_
    refine aw_iaddN d_RA_leaveOut_6 ?_
    refine aw_putI (ic := 50) (ci := 4) (k := 3) d_RA_leaveOut_7 rfl rfl (by decide) rfl rfl rfl mw_154 ?_
    refine aw_vret d_RA_leaveOut_10 rfl (by decide) (by decide) (ab_go0 ?_)
    refine aw_goto (tgt := 44) d_BF_rank_26 (by decide) ?_
    refine aw_vret d_BF_rank_44 rfl (by decide) (by decide) ?_
    exact hQ _ ⟨fun a i h1 h2 => by rw [sI_ne (by omega), f2.1], fun a i h1 h2 => f2.2.2 a i h1, by exact f2.2.1⟩ (by simp only [stepR]; rw [if_pos c1]; exact ⟨by rw [sI_ne (by omega), f2.1]; exact rc.1, sI_hit _ _ _ _, fun i hi => by rw [sI_ne (by omega), f2.1]; exact rc.2.2.1 i hi, fun i hi => by rw [sI_2, f2.2.2 _ _ (by omega)]; exact rc.2.2.2 i hi⟩)
set_option maxRecDepth 4000 in
theorem A_keep {l : Launch} {M : ab_M} {Q : ab_O → ab_M → Prop} {R : Rg} (rc : iRC R M) (hn : rn R ≤ 12) {k : Nat} (hk : k ≤ 10) (hQ : Q (.inl (some (.int (nI (min (rn R) k))))) (ab_sI M 50 2 (nI (min (rn R) k)))) : AW sys l ab_Zt k_RA_keep 1 21 0 [(0, .ref (50)), (1, .int (nI (k)))] [] M 0 0 Q := by
  refine aw_aload_n d_RA_keep_0 rfl 0 rfl ?_
  refine aw_aload_n d_RA_keep_1 rfl 0 rfl ?_
  refine aw_get (ic := 50) (ci := 4) (k := 2) d_RA_keep_2 rfl rfl (by decide) rfl mw_153 rfl ?_
  refine aw_eqi (nI (rn R)) rc.1 ?_
  refine aw_iload_n d_RA_keep_5 rfl 1 rfl ?_
  refine aw_min d_RA_keep_6 kp_w (by decide) (Nat.le_of_ble_eq_true rfl) (by decide) (by decide) ?_
  refine aw_eqi (nI (min (rn R) (k))) (nI_min (by omega) (by omega)) ?_
  refine aw_putI (ic := 50) (ci := 4) (k := 2) d_RA_keep_9 rfl rfl (by decide) rfl rfl rfl mw_153 ?_
  refine aw_aload_n d_RA_keep_12 rfl 0 rfl ?_
  refine aw_get (ic := 50) (ci := 4) (k := 2) d_RA_keep_13 rfl rfl (by decide) rfl mw_153 rfl ?_
  refine aw_eqi (nI (min (rn R) k)) (sI_hit _ _ _ _) ?_
  refine aw_iret d_RA_keep_16 rfl (by decide) (by decide) ?_
  exact hQ
set_option maxRecDepth 4000 in
theorem C_search_bad {l : Launch} {M : ab_M} {Q : ab_O → ab_M → Prop} (hl : l.stackTraces = false) {x : Int32} (hb : x.toInt < 1 ∨ 10 < x.toInt) (hQ : Q (.inr "java/lang/IllegalArgumentException") M) : AW sys l ab_Zt k_BF_search 7 162 0 [(0, .ref (0)), (1, .int (x))] [] M 0 0 Q := by
  refine aw_iload_n d_BF_search_0 rfl 1 rfl ?_
  refine aw_iconst (v := nI 1) d_BF_search_1 (by decide) ?_
  refine at_lt rfl (nI_toInt (by omega)) (tgt := 11) d_BF_search_2 (by decide) (fun c1 => ?_) (fun c1 => ?_)
  · skip
    refine th_IAE hl rfl d_BF_search_11 d_BF_search_14 d_BF_search_15 d_BF_search_17 d_BF_search_20 (List.mem_of_getElem? (i := 15) rfl) rfl (by decide) (by decide) (by decide) (by decide) ?_
    first | exact hQ | (exfalso; omega)
  · skip
    refine aw_iload_n d_BF_search_5 rfl 1 rfl ?_
    refine aw_bipush (v := nI 10) d_BF_search_6 (by decide) ?_
    refine at_le rfl (nI_toInt (by omega)) (tgt := 21) d_BF_search_8 (by decide) (fun c2 => ?_) (fun c2 => ?_)
    · skip
      exfalso; omega
    · skip
      refine th_IAE hl rfl d_BF_search_11 d_BF_search_14 d_BF_search_15 d_BF_search_17 d_BF_search_20 (List.mem_of_getElem? (i := 15) rfl) rfl (by decide) (by decide) (by decide) (by decide) ?_
      first | exact hQ | (exfalso; omega)
set_option maxRecDepth 4000 in
theorem C_search_loop {l : Launch} {M : ab_M} {Q : ab_O → ab_M → Prop} {D : Dg} {T : Qg} {S : Sg} (wd : wD D) (dc : iDC D M) (wq : wQ T) (qc : iQC T M) (ws : wS S) (sc : iSC S M) (h0 : op T (qn T) = 0) {k : Nat} (hk1 : 1 ≤ k) (hk10 : k ≤ 10) (hQ : ∀ M', iRC (srR S T D k) M' → frO 24 52 M M' → Q (.inl (some (.int (nI (rn (srR S T D k)))))) M') : ∀ (mm : Nat) (d : Nat) (M1 : ab_M), 12 - d = mm → (hd : d ≤ dn D) → (hf : frO 24 52 M M1) → (hc : ∀ t, t < qn T → qk T t ≤ 4 → hitM T D M1 t) → (rc1 : iRC (rkS S T D d) M1) → AW sys l ab_Zt k_BF_search 7 162 57 [(2, .int (nI (d))), (0, .ref (0)), (1, .int (nI (k)))] [] M1 0 0 Q := by
  intro mm
  induction mm using Nat.strongRecOn with
  | ind mm ih =>
    intro d M1 hk hd hf hc rc1
    have h12 := wd.1
    have h24 := wq.1
    have hop := op_le (T := T) (qn T) (fun t h => wq.2.1 t h)
    have hl24 := wd.2.1 d
    have dc1 := frO_dc hf dc
    have qc1 := frO_qc hf qc
    have sc1 := frO_sc hf sc
    have hrk := rkS_n S T D d
    have hok := rkS_ok ws wd wq h0 d hd
    refine aw_iload_n d_BF_search_57 rfl 0 rfl ?_
    refine aw_aload_n d_BF_search_58 rfl 1 rfl ?_
    refine aw_get (ic := 0) (ci := 0) (k := 0) (v := .ref 1) d_BF_search_59 rfl rfl (by decide) rfl mw_189 rfl ?_
    refine aw_callV (K' := k_TX_size) (As := []) (rest := [.int (nI (d))]) (b := 1) d_BF_search_62 rfl rfl rfl cs_BF_185 rfl (Nat.le_of_ble_eq_true rfl) (Nat.le_of_ble_eq_true rfl) (by decide) (by decide) (d' := 0) (w' := 0) (by decide) (by decide) ?_
    show AW _ _ _ _ _ _ _ [(0, .ref (1))] _ _ _ _ _
    refine aw_aload_n d_TX_size_0 rfl 0 rfl ?_
    refine aw_get (ic := 1) (ci := 1) (k := 3) d_TX_size_1 rfl rfl (by decide) rfl mw_72 rfl ?_
    refine aw_eqi (nI (dn D)) dc1.1 ?_
    refine aw_iret d_TX_size_4 rfl (by decide) (by decide) (ab_go1 ?_)
    refine aw_icmp_geN (tgt := 90) d_BF_search_65 (by decide) (by omega) (by omega) (fun c1 => ?_) (fun c1 => ?_)
    · skip
      refine aw_aload_n d_BF_search_90 rfl 1 rfl ?_
      refine aw_get (ic := 0) (ci := 0) (k := 3) (v := .ref 50) d_BF_search_91 rfl rfl (by decide) rfl mw_192 rfl ?_
      refine aw_iload_n d_BF_search_94 rfl 2 rfl ?_
      refine aw_callV (K' := k_RA_keep) (As := [.int (nI (k))]) (rest := []) (b := 50) d_BF_search_95 rfl rfl rfl cs_BF_189 rfl (Nat.le_of_ble_eq_true rfl) (Nat.le_of_ble_eq_true rfl) (by decide) (by decide) (d' := 1) (w' := 21) (by decide) (by decide) ?_
      show AW _ _ _ _ _ _ _ [(0, .ref (50)), (1, .int (nI (k)))] _ _ _ _ _
      refine A_keep rc1 (by omega) hk10 ?_
      refine ab_go1 ?_
      refine aw_iret d_BF_search_98 rfl (by decide) (by decide) ?_
      have ed : d = dn D := by omega
      rw [ed] at rc1 ⊢
      exact hQ _ ⟨sI_hit _ _ _ _, by rw [sI_ne (by omega)]; exact rc1.2.1, fun i hi => by rw [sI_ne (by omega)]; exact rc1.2.2.1 i (by have : i < min (rn (rkS S T D (dn D))) k := hi; omega), fun i hi => by rw [sI_2]; exact rc1.2.2.2 i (by have : i < min (rn (rkS S T D (dn D))) k := hi; omega)⟩ (fun a i ha => ⟨by rw [sI_ne (by omega)]; exact (hf a i ha).1, (hf a i ha).2.1, (hf a i ha).2.2⟩)
    · skip
      refine aw_aload_n d_BF_search_68 rfl 1 rfl ?_
      refine aw_get (ic := 0) (ci := 0) (k := 0) (v := .ref 1) d_BF_search_69 rfl rfl (by decide) rfl mw_189 rfl ?_
      refine aw_iload_n d_BF_search_72 rfl 0 rfl ?_
      refine aw_callV (K' := k_TX_lengthOf) (As := [.int (nI (d))]) (rest := []) (b := 1) d_BF_search_73 rfl rfl rfl cs_BF_138 rfl (Nat.le_of_ble_eq_true rfl) (Nat.le_of_ble_eq_true rfl) (by decide) (by decide) (d' := 0) (w' := 0) (by decide) (by decide) ?_
      show AW _ _ _ _ _ _ _ [(0, .ref (1)), (1, .int (nI (d)))] _ _ _ _ _
      refine aw_aload_n d_TX_lengthOf_0 rfl 0 rfl ?_
      refine aw_get (ic := 1) (ci := 1) (k := 1) (v := .ref 15) d_TX_lengthOf_1 rfl rfl (by decide) rfl mw_70 rfl ?_
      refine aw_iload_n d_TX_lengthOf_4 rfl 1 rfl ?_
      refine aw_ialdN d_TX_lengthOf_5 rfl (by decide) (by omega) ?_
      refine aw_eqi (nI (dl D d)) (dc1.2.2.1 _ (by omega)) ?_
      refine aw_iret d_TX_lengthOf_6 rfl (by decide) (by decide) (ab_go1 ?_)
      refine aw_if_leN (tgt := 84) d_BF_search_76 (by decide) (by omega) (fun c2 => ?_) (fun c2 => ?_)
      · skip
        refine aw_iinc (v := (nI (d + 1))) (lv' := [(2, .int (nI (d + 1))), (0, .ref (0)), (1, .int (nI (k)))]) d_BF_search_84 (j := 0) rfl (nI_add (d) 1) (by decide) rfl ?_
        refine aw_goto (tgt := 57) d_BF_search_87 (by decide) ?_
        exact ih _ (by omega) (d + 1) M1 rfl (by omega) hf hc (by simp only [rkS]; rw [if_pos (by omega)]; exact rc1)
      · skip
        refine aw_aload_n d_BF_search_79 rfl 1 rfl ?_
        refine aw_iload_n d_BF_search_80 rfl 0 rfl ?_
        refine aw_callV (K' := k_BF_rank) (As := [.int (nI (d))]) (rest := []) (b := 0) d_BF_search_81 rfl rfl rfl cs_BF_186 rfl (Nat.le_of_ble_eq_true rfl) (Nat.le_of_ble_eq_true rfl) (by decide) (by decide) (d' := 5) (w' := 116) (by decide) (by decide) ?_
        show AW _ _ _ _ _ _ _ [(0, .ref (0)), (1, .int (nI (d)))] _ _ _ _ _
        refine A_rank (R := rkS S T D d) wd dc1 wq qc1 ws sc1 rc1 (by omega) (by omega) (fun i hi => (hok i hi).2.2.1) (by omega) (by omega) h0 hc (fun M2 f2 r2 => ?_)
        refine ab_go0 ?_
        refine aw_iinc (v := (nI (d + 1))) (lv' := [(2, .int (nI (d + 1))), (0, .ref (0)), (1, .int (nI (k)))]) d_BF_search_84 (j := 0) rfl (nI_add (d) 1) (by decide) rfl ?_
        refine aw_goto (tgt := 57) d_BF_search_87 (by decide) ?_
        exact ih _ (by omega) (d + 1) M2 rfl (by omega) (frK_o hf f2) (fun t h1 h2 => frK_hm (by omega) f2 (hc t h1 h2)) (by simp only [rkS]; rw [if_neg (by omega)]; exact r2)
set_option maxRecDepth 4000 in
theorem C_search {l : Launch} {M : ab_M} {Q : ab_O → ab_M → Prop} (hl : l.stackTraces = false) {D : Dg} {T : Qg} {S : Sg} (wd : wD D) (dc : iDC D M) (wq : wQ T) (qc : iQC T M) (ws : wS S) (sc : iSC S M) {k : Nat} (hk1 : 1 ≤ k) (hk : k ≤ 10) (hF : op T (qn T) ≠ 0 → Q (.inr "java/lang/IllegalStateException") M) (hO : op T (qn T) = 0 → ∀ M', iRC (srR S T D k) M' → frO 24 52 M M' → Q (.inl (some (.int (nI (rn (srR S T D k)))))) M') : AW sys l ab_Zt k_BF_search 7 162 0 [(0, .ref (0)), (1, .int (nI (k)))] [] M 0 0 Q := by
  have h12 := wd.1
  have h24 := wq.1
  have hop := op_le (T := T) (qn T) (fun t h => wq.2.1 t h)
  refine aw_iload_n d_BF_search_0 rfl 1 rfl ?_
  refine aw_iconst (v := nI 1) d_BF_search_1 (by decide) ?_
  refine aw_icmp_ltN (tgt := 11) d_BF_search_2 (by decide) (by omega) (by omega) (fun c1 => ?_) (fun c1 => ?_)
  · skip
    exfalso; omega
  · skip
    refine aw_iload_n d_BF_search_5 rfl 1 rfl ?_
    refine aw_bipush (v := nI 10) d_BF_search_6 (by decide) ?_
    refine aw_icmp_leN (tgt := 21) d_BF_search_8 (by decide) (by omega) (by omega) (fun c2 => ?_) (fun c2 => ?_)
    · skip
      refine aw_aload_n d_BF_search_21 rfl 0 rfl ?_
      refine aw_get (ic := 0) (ci := 0) (k := 1) (v := .ref 17) d_BF_search_22 rfl rfl (by decide) rfl mw_190 rfl ?_
      refine aw_callV (K' := k_QU_isWhole) (As := []) (rest := []) (b := 17) d_BF_search_25 rfl rfl rfl cs_BF_109 rfl (Nat.le_of_ble_eq_true rfl) (Nat.le_of_ble_eq_true rfl) (by decide) (by decide) (d' := 0) (w' := 0) (by decide) (by decide) ?_
      show AW _ _ _ _ _ _ _ [(0, .ref (17))] _ _ _ _ _
      refine aw_aload_n d_QU_isWhole_0 rfl 0 rfl ?_
      refine aw_get (ic := 17) (ci := 2) (k := 5) d_QU_isWhole_1 rfl rfl (by decide) rfl mw_97 rfl ?_
      refine aw_eqi (nI (op T (qn T))) qc.2.2.2.2.1 ?_
      refine aw_if_neN (tgt := 11) d_QU_isWhole_4 (by decide) (by omega) (fun c3 => ?_) (fun c3 => ?_)
      · skip
        refine aw_iconst (v := nI 0) d_QU_isWhole_11 (by decide) ?_
        refine aw_zret (Or.inl rfl) d_QU_isWhole_12 rfl (by decide) (by decide) (ab_go1 ?_)
        refine aw_if_neN (tgt := 41) d_BF_search_28 (by decide) (by omega) (fun c4 => ?_) (fun c4 => ?_)
        · skip
          exact absurd c4 (by decide)
        · skip
          refine th_ISE hl rfl d_BF_search_31 d_BF_search_34 d_BF_search_35 d_BF_search_37 d_BF_search_40 (List.mem_of_getElem? (i := 11) rfl) rfl (by decide) (by decide) (by decide) (by decide) ?_
          exact hF (by omega)
      · skip
        refine aw_iconst (v := nI 1) d_QU_isWhole_7 (by decide) ?_
        refine aw_goto (tgt := 12) d_QU_isWhole_8 (by decide) ?_
        refine aw_zret (Or.inr rfl) d_QU_isWhole_12 rfl (by decide) (by decide) (ab_go1 ?_)
        refine aw_if_neN (tgt := 41) d_BF_search_28 (by decide) (by omega) (fun c5 => ?_) (fun c5 => ?_)
        · skip
          refine aw_aload_n d_BF_search_41 rfl 0 rfl ?_
          refine aw_get (ic := 0) (ci := 0) (k := 2) (v := .ref 22) d_BF_search_42 rfl rfl (by decide) rfl mw_191 rfl ?_
          refine aw_callV (K' := k_NE_countHits) (As := []) (rest := []) (b := 22) d_BF_search_45 rfl rfl rfl cs_BF_148 rfl (Nat.le_of_ble_eq_true rfl) (Nat.le_of_ble_eq_true rfl) (by decide) (by decide) (d' := 6) (w' := 141) (by decide) (by decide) ?_
          show AW _ _ _ _ _ _ _ [(0, .ref (22))] _ _ _ _ _
          refine A_countHits wd dc wq qc (by omega) (fun M1 f1' c1' => ?_)
          refine ab_go0 ?_
          refine aw_aload_n d_BF_search_48 rfl 0 rfl ?_
          refine aw_get (ic := 0) (ci := 0) (k := 3) (v := .ref 50) d_BF_search_49 rfl rfl (by decide) rfl mw_192 rfl ?_
          refine aw_callV (K' := k_RA_empty) (As := []) (rest := []) (b := 50) d_BF_search_52 rfl rfl rfl cs_BF_184 rfl (Nat.le_of_ble_eq_true rfl) (Nat.le_of_ble_eq_true rfl) (by decide) (by decide) (d' := 0) (w' := 0) (by decide) (by decide) ?_
          show AW _ _ _ _ _ _ _ [(0, .ref (50))] _ _ _ _ _
          refine aw_aload_n d_RA_empty_0 rfl 0 rfl ?_
          refine aw_iconst (v := nI 0) d_RA_empty_1 (by decide) ?_
          refine aw_putI (ic := 50) (ci := 4) (k := 2) d_RA_empty_2 rfl rfl (by decide) rfl rfl rfl mw_153 ?_
          refine aw_aload_n d_RA_empty_5 rfl 0 rfl ?_
          refine aw_iconst (v := nI 0) d_RA_empty_6 (by decide) ?_
          refine aw_putI (ic := 50) (ci := 4) (k := 3) d_RA_empty_7 rfl rfl (by decide) rfl rfl rfl mw_154 ?_
          refine aw_vret d_RA_empty_10 rfl (by decide) (by decide) (ab_go0 ?_)
          refine aw_iconst (v := nI 0) d_BF_search_55 (by decide) ?_
          refine aw_istore_n (lv' := [(2, .int (nI (0))), (0, .ref (0)), (1, .int (nI (k)))]) d_BF_search_56 rfl (by decide) rfl ?_
          exact C_search_loop wd dc wq qc ws sc (by omega) hk1 hk (fun M' => hO (by omega) M') _ 0 _ rfl (by omega) (fun a i ha => ⟨by rw [sI_ne (by omega), sI_ne (by omega)]; exact f1'.2 a i (by omega), by show M1.2.1 a i = _; rw [f1'.1], by show M1.2.2 a i = _; rw [f1'.1]⟩) (fun t h1 h2 => ⟨by rw [sI_ne (by omega), sI_ne (by omega)]; exact (c1' t h1 h2).1, fun d hd => by rw [sI_ne (by omega), sI_ne (by omega)]; exact (c1' t h1 h2).2 d hd⟩) ⟨by rw [sI_ne (by omega), sI_hit]; rfl, by rw [sI_hit]; rfl, fun i hi => absurd hi (by show ¬ i < 0; omega), fun i hi => absurd hi (by show ¬ i < 0; omega)⟩
        · skip
          exact absurd c5 (by decide)
    · skip
      exfalso; omega
