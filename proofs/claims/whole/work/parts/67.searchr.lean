/-! belief and search of the reference (rows laid by gen/m16.py) -/
def frC' (M M' : ab_M) : Prop := ∀ a i, a < 57 ∨ 68 < a → M'.1 a i = M.1 a i ∧ M'.2.1 a i = M.2.1 a i ∧ M'.2.2 a i = M.2.2 a i
theorem frB_c {M M' : ab_M} (h : frB M M') : frC' M M' := fun a i ha => ⟨h.1 a i (by omega) (by omega), h.2.1 a i (by omega) (by omega), by rw [h.2.2]⟩
theorem frC_refl (M : ab_M) : frC' M M := fun _ _ _ => ⟨rfl, rfl, rfl⟩
theorem frC_trans {M M1 M2 : ab_M} (h : frC' M M1) (k : frC' M1 M2) : frC' M M2 := fun a i ha => ⟨(k a i ha).1.trans (h a i ha).1, (k a i ha).2.1.trans (h a i ha).2.1, (k a i ha).2.2.trans (h a i ha).2.2⟩
theorem frC_sI {M : ab_M} {i : Nat} {x : Int32} : frC' M (ab_sI M 57 i x) := fun a j ha => ⟨sI_ne (by omega), rfl, rfl⟩
/-- a frame of the reference: which of its facts stay -/
def keR (D : Dg) (T : Qg) (S : Sg) (M M' : ab_M) : Prop := iDR D M' ∧ iQR T M' ∧ iSR S M' ∧ frC' M M'
theorem keR_B {D : Dg} {T : Qg} {S : Sg} {M M1 M2 : ab_M} (h : keR D T S M M1) (f : frB M1 M2) : keR D T S M M2 := ⟨frB_dr f h.1, frB_qr f h.2.1, frB_sr f h.2.2.1, frC_trans h.2.2.2 (frB_c f)⟩
theorem keR_P {D : Dg} {T : Qg} {S : Sg} {M M1 M2 : ab_M} (h : keR D T S M M1) (f : frP 57 18 67 68 M1 M2) : keR D T S M M2 :=
  ⟨iDR_of h.1 (f.1 _ _ (by omega) (by omega)) (fun a i h1 h2 => f.1 a i (by omega) (by omega)), iQR_of h.2.1 (f.1 _ _ (by omega) (by omega)) (fun a i h1 h2 => ⟨f.1 a i (by omega) (by omega), f.2.1 a i (by omega)⟩), iSR_of h.2.2.1 (fun i h1 h2 => ⟨f.1 _ i (by omega) (by omega), f.2.1 _ i (by omega)⟩), frC_trans h.2.2.2 (fun a i ha => ⟨f.1 a i (by omega) (by omega), f.2.1 a i (by omega), by rw [f.2.2]⟩)⟩
theorem keR_I {D : Dg} {T : Qg} {S : Sg} {M M1 : ab_M} {i : Nat} {x : Int32} (h : keR D T S M M1) (hi : i = 0 ∨ 11 ≤ i) : keR D T S M (ab_sI M1 57 i x) :=
  ⟨iDR_of h.1 (sI_ne (by omega)) (fun a j h1 h2 => sI_ne (by omega)), iQR_of h.2.1 (sI_ne (by omega)) (fun a j h1 h2 => ⟨sI_ne (by omega), rfl⟩), iSR_of h.2.2.1 (fun j h1 h2 => ⟨sI_ne (by omega), rfl⟩), frC_trans h.2.2.2 frC_sI⟩

set_option maxRecDepth 4000 in
theorem R_belief_bad {l : Launch} {M : ab_M} {Q : ab_O → ab_M → Prop} {D : Dg} {T : Qg} {S : Sg} {R : Rg} (wd : wD D) (dr : iDR D M) (wq : wQ T) (qr : iQR T M) (ws : wS S) (sr : iSR S M) (rr : iRR R M) {x : Int32} (hb : x.toInt < 0 ∨ (dn D : Int) ≤ x.toInt) (hQ : Q (.inl (some (.double FP.dconst0))) (thrM 1 M)) : AW sys l ab_Zt k_MO_belief 5 129 0 [(0, .ref (57)), (1, .int (x))] [] M 0 0 Q := by
  have h12 := wd.1
  have h24 := wq.1
  have hop := op_le (T := T) (qn T) (fun t h => wq.2.1 t h)
  refine aw_aload_n d_MO_belief_0 rfl 0 rfl ?_
  refine aw_iload_n d_MO_belief_1 rfl 1 rfl ?_
  refine aw_iconst (v := nI 0) d_MO_belief_2 (by decide) ?_
  refine aw_aload_n d_MO_belief_3 rfl 0 rfl ?_
  refine aw_get (ic := 57) (ci := 6) (k := 4) d_MO_belief_4 rfl rfl (by decide) rfl mw_779 rfl ?_
  refine aw_eqi (nI (dn D)) dr.1 ?_
  refine aw_iconst (v := nI 1) d_MO_belief_7 (by decide) ?_
  refine aw_isub d_MO_belief_8 ?_
  refine aw_callS (K' := k_MO_in) (As := [.int (x), .int (nI (0)), .int (nI (dn D) - nI 1)]) (rest := [.ref (57)]) d_MO_belief_9 rfl cs_MO_54 rfl (Nat.le_of_ble_eq_true rfl) (Nat.le_of_ble_eq_true rfl) (by decide) (by decide) (d' := 0) (w' := 0) (by decide) (by decide) ?_
  show AW _ _ _ _ _ _ _ [(0, .int (x)), (1, .int (nI (0))), (2, .int (nI (dn D) - nI 1))] _ _ _ _ _
  refine aw_iload_n d_MO_in_0 rfl 0 rfl ?_
  refine aw_iload_n d_MO_in_1 rfl 1 rfl ?_
  refine at_lt rfl (nI_toInt (by omega)) (tgt := 14) d_MO_in_2 (by decide) (fun c1 => ?_) (fun c1 => ?_)
  · skip
    refine aw_iconst (v := nI 0) d_MO_in_14 (by decide) ?_
    refine aw_zret (Or.inl rfl) d_MO_in_15 rfl (by decide) (by decide) (ab_go1 ?_)
    refine aw_if_eqN (tgt := 24) d_MO_belief_12 (by decide) (by omega) (fun c2 => ?_) (fun c2 => ?_)
    · skip
      refine aw_iconst (v := nI 1) d_MO_belief_24 (by decide) ?_
      refine aw_goto (tgt := 40) d_MO_belief_25 (by decide) ?_
      refine aw_putI (ic := 57) (ci := 6) (k := 0) d_MO_belief_40 rfl rfl (by decide) rfl rfl rfl mw_775 ?_
      refine aw_aload_n d_MO_belief_43 rfl 0 rfl ?_
      refine aw_get (ic := 57) (ci := 6) (k := 0) d_MO_belief_44 rfl rfl (by decide) rfl mw_775 rfl ?_
      refine aw_eqi (nI (1)) (sI_hit _ _ _ _) ?_
      refine aw_if_leN (tgt := 52) d_MO_belief_47 (by decide) (by omega) (fun c3 => ?_) (fun c3 => ?_)
      · skip
        exact absurd c3 (by decide)
      · skip
        refine aw_dconst0 d_MO_belief_50 ?_
        refine aw_dret d_MO_belief_51 rfl (by decide) (by decide) ?_
        exact hQ
    · skip
      exact absurd c2 (by decide)
  · skip
    refine aw_iload_n d_MO_in_5 rfl 0 rfl ?_
    refine aw_iload_n d_MO_in_6 rfl 2 rfl ?_
    refine at_gt rfl (nm_int (by omega)) (tgt := 14) d_MO_in_7 (by decide) (fun c4 => ?_) (fun c4 => ?_)
    · skip
      refine aw_iconst (v := nI 0) d_MO_in_14 (by decide) ?_
      refine aw_zret (Or.inl rfl) d_MO_in_15 rfl (by decide) (by decide) (ab_go1 ?_)
      refine aw_if_eqN (tgt := 24) d_MO_belief_12 (by decide) (by omega) (fun c5 => ?_) (fun c5 => ?_)
      · skip
        refine aw_iconst (v := nI 1) d_MO_belief_24 (by decide) ?_
        refine aw_goto (tgt := 40) d_MO_belief_25 (by decide) ?_
        refine aw_putI (ic := 57) (ci := 6) (k := 0) d_MO_belief_40 rfl rfl (by decide) rfl rfl rfl mw_775 ?_
        refine aw_aload_n d_MO_belief_43 rfl 0 rfl ?_
        refine aw_get (ic := 57) (ci := 6) (k := 0) d_MO_belief_44 rfl rfl (by decide) rfl mw_775 rfl ?_
        refine aw_eqi (nI (1)) (sI_hit _ _ _ _) ?_
        refine aw_if_leN (tgt := 52) d_MO_belief_47 (by decide) (by omega) (fun c6 => ?_) (fun c6 => ?_)
        · skip
          exact absurd c6 (by decide)
        · skip
          refine aw_dconst0 d_MO_belief_50 ?_
          refine aw_dret d_MO_belief_51 rfl (by decide) (by decide) ?_
          exact hQ
      · skip
        exact absurd c5 (by decide)
    · skip
      refine aw_iconst (v := nI 1) d_MO_in_10 (by decide) ?_
      refine aw_goto (tgt := 15) d_MO_in_11 (by decide) ?_
      refine aw_zret (Or.inr rfl) d_MO_in_15 rfl (by decide) (by decide) (ab_go1 ?_)
      refine aw_if_eqN (tgt := 24) d_MO_belief_12 (by decide) (by omega) (fun c7 => ?_) (fun c7 => ?_)
      · skip
        exact absurd c7 (by decide)
      · skip
        exfalso; omega
set_option maxRecDepth 4000 in
theorem R_belief0 {l : Launch} {M : ab_M} {Q : ab_O → ab_M → Prop} {D : Dg} {T : Qg} {S : Sg} {R : Rg} (wd : wD D) (dr : iDR D M) (wq : wQ T) (qr : iQR T M) (ws : wS S) (sr : iSR S M) (rr : iRR R M) {d : Nat} (hd : d < dn D) (hE : dl D d = 0 → Q (.inl (some (.double FP.dconst0))) (thrM 1 M)) (hF : 0 < dl D d → op T (qn T) ≠ 0 → Q (.inl (some (.double FP.dconst0))) (thrM 2 M)) (hG : 0 < dl D d → op T (qn T) = 0 → outB T D (bl S T D d (qn T)) d = true → ∀ M', keR D T S M M' → iRR R M' → M'.1 57 0 = nI 3 → Q (.inl (some (.double FP.dconst0))) M') (hO : 0 < dl D d → op T (qn T) = 0 → outB T D (bl S T D d (qn T)) d = false → ∀ M', keR D T S M M' → iRR R M' → M'.1 57 0 = nI 0 → Q (.inl (some (.double (bl S T D d (qn T) 0)))) M') : AW sys l ab_Zt k_MO_belief 5 129 0 [(0, .ref (57)), (1, .int (nI (d)))] [] M 0 0 Q := by
  have h12 := wd.1
  have h24 := wq.1
  have hop := op_le (T := T) (qn T) (fun t h => wq.2.1 t h)
  have hl24 := wd.2.1 d
  refine aw_aload_n d_MO_belief_0 rfl 0 rfl ?_
  refine aw_iload_n d_MO_belief_1 rfl 1 rfl ?_
  refine aw_iconst (v := nI 0) d_MO_belief_2 (by decide) ?_
  refine aw_aload_n d_MO_belief_3 rfl 0 rfl ?_
  refine aw_get (ic := 57) (ci := 6) (k := 4) d_MO_belief_4 rfl rfl (by decide) rfl mw_779 rfl ?_
  refine aw_eqi (nI (dn D)) dr.1 ?_
  refine aw_iconst (v := nI 1) d_MO_belief_7 (by decide) ?_
  refine aw_isub d_MO_belief_8 ?_
  refine aw_callS (K' := k_MO_in) (As := [.int (nI (d)), .int (nI (0)), .int (nI (dn D) - nI 1)]) (rest := [.ref (57)]) d_MO_belief_9 rfl cs_MO_54 rfl (Nat.le_of_ble_eq_true rfl) (Nat.le_of_ble_eq_true rfl) (by decide) (by decide) (d' := 0) (w' := 0) (by decide) (by decide) ?_
  show AW _ _ _ _ _ _ _ [(0, .int (nI (d))), (1, .int (nI (0))), (2, .int (nI (dn D) - nI 1))] _ _ _ _ _
  refine aw_iload_n d_MO_in_0 rfl 0 rfl ?_
  refine aw_iload_n d_MO_in_1 rfl 1 rfl ?_
  refine aw_icmp_ltN (tgt := 14) d_MO_in_2 (by decide) (by omega) (by omega) (fun c1 => ?_) (fun c1 => ?_)
  · skip
    refine aw_iconst (v := nI 0) d_MO_in_14 (by decide) ?_
    refine aw_zret (Or.inl rfl) d_MO_in_15 rfl (by decide) (by decide) (ab_go1 ?_)
    refine aw_if_eqN (tgt := 24) d_MO_belief_12 (by decide) (by omega) (fun c2 => ?_) (fun c2 => ?_)
    · skip
      refine aw_iconst (v := nI 1) d_MO_belief_24 (by decide) ?_
      refine aw_goto (tgt := 40) d_MO_belief_25 (by decide) ?_
      refine aw_putI (ic := 57) (ci := 6) (k := 0) d_MO_belief_40 rfl rfl (by decide) rfl rfl rfl mw_775 ?_
      refine aw_aload_n d_MO_belief_43 rfl 0 rfl ?_
      refine aw_get (ic := 57) (ci := 6) (k := 0) d_MO_belief_44 rfl rfl (by decide) rfl mw_775 rfl ?_
      refine aw_eqi (nI (1)) (sI_hit _ _ _ _) ?_
      refine aw_if_leN (tgt := 52) d_MO_belief_47 (by decide) (by omega) (fun c3 => ?_) (fun c3 => ?_)
      · skip
        exact absurd c3 (by decide)
      · skip
        refine aw_dconst0 d_MO_belief_50 ?_
        refine aw_dret d_MO_belief_51 rfl (by decide) (by decide) ?_
        first | exact hE (by omega) | exact hF (by omega) (by omega) | (exfalso; omega)
    · skip
      exact absurd c2 (by decide)
  · skip
    refine aw_iload_n d_MO_in_5 rfl 0 rfl ?_
    refine aw_iload_n d_MO_in_6 rfl 2 rfl ?_
    refine at_gt (nI_toInt (by omega)) (nm_int (by omega)) (tgt := 14) d_MO_in_7 (by decide) (fun c4 => ?_) (fun c4 => ?_)
    · skip
      refine aw_iconst (v := nI 0) d_MO_in_14 (by decide) ?_
      refine aw_zret (Or.inl rfl) d_MO_in_15 rfl (by decide) (by decide) (ab_go1 ?_)
      refine aw_if_eqN (tgt := 24) d_MO_belief_12 (by decide) (by omega) (fun c5 => ?_) (fun c5 => ?_)
      · skip
        refine aw_iconst (v := nI 1) d_MO_belief_24 (by decide) ?_
        refine aw_goto (tgt := 40) d_MO_belief_25 (by decide) ?_
        refine aw_putI (ic := 57) (ci := 6) (k := 0) d_MO_belief_40 rfl rfl (by decide) rfl rfl rfl mw_775 ?_
        refine aw_aload_n d_MO_belief_43 rfl 0 rfl ?_
        refine aw_get (ic := 57) (ci := 6) (k := 0) d_MO_belief_44 rfl rfl (by decide) rfl mw_775 rfl ?_
        refine aw_eqi (nI (1)) (sI_hit _ _ _ _) ?_
        refine aw_if_leN (tgt := 52) d_MO_belief_47 (by decide) (by omega) (fun c6 => ?_) (fun c6 => ?_)
        · skip
          exact absurd c6 (by decide)
        · skip
          refine aw_dconst0 d_MO_belief_50 ?_
          refine aw_dret d_MO_belief_51 rfl (by decide) (by decide) ?_
          first | exact hE (by omega) | exact hF (by omega) (by omega) | (exfalso; omega)
      · skip
        exact absurd c5 (by decide)
    · skip
      refine aw_iconst (v := nI 1) d_MO_in_10 (by decide) ?_
      refine aw_goto (tgt := 15) d_MO_in_11 (by decide) ?_
      refine aw_zret (Or.inr rfl) d_MO_in_15 rfl (by decide) (by decide) (ab_go1 ?_)
      refine aw_if_eqN (tgt := 24) d_MO_belief_12 (by decide) (by omega) (fun c7 => ?_) (fun c7 => ?_)
      · skip
        exact absurd c7 (by decide)
      · skip
        refine aw_aload_n d_MO_belief_15 rfl 0 rfl ?_
        refine aw_get (ic := 57) (ci := 6) (k := 2) (v := .ref 59) d_MO_belief_16 rfl rfl (by decide) rfl mw_777 rfl ?_
        refine aw_iload_n d_MO_belief_19 rfl 1 rfl ?_
        refine aw_ialdN d_MO_belief_20 rfl (by decide) (by omega) ?_
        refine aw_eqi (nI (dl D d)) (dr.2.1 _ (by omega)) ?_
        refine aw_if_neN (tgt := 28) d_MO_belief_21 (by decide) (by omega) (fun c8 => ?_) (fun c8 => ?_)
        · skip
          refine aw_aload_n d_MO_belief_28 rfl 0 rfl ?_
          refine aw_callV (K' := k_MO_open) (As := []) (rest := [.ref (57)]) (b := 57) d_MO_belief_29 rfl rfl rfl cs_MO_84 rfl (Nat.le_of_ble_eq_true rfl) (Nat.le_of_ble_eq_true rfl) (by decide) (by decide) (d' := 1) (w' := 22) (by decide) (by decide) ?_
          show AW _ _ _ _ _ _ _ [(0, .ref (57))] _ _ _ _ _
          refine B_open wq qr ?_
          refine ab_go1 ?_
          refine aw_if_leN (tgt := 39) d_MO_belief_32 (by decide) (by omega) (fun c9 => ?_) (fun c9 => ?_)
          · skip
            refine aw_iconst (v := nI 0) d_MO_belief_39 (by decide) ?_
            refine aw_putI (ic := 57) (ci := 6) (k := 0) d_MO_belief_40 rfl rfl (by decide) rfl rfl rfl mw_775 ?_
            refine aw_aload_n d_MO_belief_43 rfl 0 rfl ?_
            refine aw_get (ic := 57) (ci := 6) (k := 0) d_MO_belief_44 rfl rfl (by decide) rfl mw_775 rfl ?_
            refine aw_eqi (nI (0)) (sI_hit _ _ _ _) ?_
            refine aw_if_leN (tgt := 52) d_MO_belief_47 (by decide) (by omega) (fun c10 => ?_) (fun c10 => ?_)
            · skip
              refine aw_aload_n d_MO_belief_52 rfl 0 rfl ?_
              refine aw_iload_n d_MO_belief_53 rfl 1 rfl ?_
              refine aw_callV (K' := k_MO_believed) (As := [.int (nI (d))]) (rest := []) (b := 57) d_MO_belief_54 rfl rfl rfl cs_MO_142 rfl (Nat.le_of_ble_eq_true rfl) (Nat.le_of_ble_eq_true rfl) (by decide) (by decide) (d' := 4) (w' := 102) (by decide) (by decide) ?_
              show AW _ _ _ _ _ _ _ [(0, .ref (57)), (1, .int (nI (d)))] _ _ _ _ _
              refine B_believed wd (frB_dr (thr_fr 0 M) dr) wq (frB_qr (thr_fr 0 M) qr) ws (frB_sr (thr_fr 0 M) sr) (by omega) hd (by omega) (fun M2 f2 z2 o2 => ?_)
              refine ab_go1 ?_
              refine aw_dstore_n (lv' := [(2, .double (bl S T D d (qn T) 0)), (0, .ref (57)), (1, .int (nI (d)))]) d_MO_belief_57 rfl (by decide) rfl ?_
              refine aw_aload_n d_MO_belief_58 rfl 1 rfl ?_
              refine aw_get (ic := 57) (ci := 6) (k := 15) d_MO_belief_59 rfl rfl (by decide) rfl mw_790 rfl ?_
              refine aw_eqi (nI (bN (outB T D (bl S T D d (qn T)) d))) o2 ?_
              refine aw_if_eqB (tgt := 70) d_MO_belief_62 (by decide) (fun c11 => ?_) (fun c11 => ?_)
              · skip
                refine aw_aload_n d_MO_belief_70 rfl 1 rfl ?_
                refine aw_get (ic := 57) (ci := 6) (k := 15) d_MO_belief_71 rfl rfl (by decide) rfl mw_790 rfl ?_
                refine aw_eqi (nI (bN (outB T D (bl S T D d (qn T)) d))) o2 ?_
                refine aw_if_eqB (tgt := 81) d_MO_belief_74 (by decide) (fun c12 => ?_) (fun c12 => ?_)
                · skip
                  refine aw_dload_n d_MO_belief_81 rfl 0 rfl ?_
                  refine aw_dret d_MO_belief_82 rfl (by decide) (by decide) ?_
                  exact hO (by omega) (by omega) c11 _ (keR_B ⟨frB_dr (thr_fr 0 M) dr, frB_qr (thr_fr 0 M) qr, frB_sr (thr_fr 0 M) sr, frB_c (thr_fr 0 M)⟩ f2) (frB_rr f2 (frB_rr (thr_fr 0 M) rr)) (by rw [z2]; exact sI_hit _ _ _ _)
                · skip
                  rw [c11] at c12; cases c12
              · skip
                refine aw_aload_n d_MO_belief_65 rfl 1 rfl ?_
                refine aw_iconst (v := nI 3) d_MO_belief_66 (by decide) ?_
                refine aw_putI (ic := 57) (ci := 6) (k := 0) d_MO_belief_67 rfl rfl (by decide) rfl rfl rfl mw_775 ?_
                refine aw_aload_n d_MO_belief_70 rfl 1 rfl ?_
                refine aw_get (ic := 57) (ci := 6) (k := 15) d_MO_belief_71 rfl rfl (by decide) rfl mw_790 rfl ?_
                refine aw_eqi (nI (bN (outB T D (bl S T D d (qn T)) d))) (by rw [sI_ne (by omega)]; exact o2) ?_
                refine aw_if_eqB (tgt := 81) d_MO_belief_74 (by decide) (fun c13 => ?_) (fun c13 => ?_)
                · skip
                  rw [c11] at c13; cases c13
                · skip
                  refine aw_dconst0 d_MO_belief_77 ?_
                  refine aw_goto (tgt := 82) d_MO_belief_78 (by decide) ?_
                  refine aw_dret d_MO_belief_82 rfl (by decide) (by decide) ?_
                  exact hG (by omega) (by omega) c11 _ (keR_I (keR_B ⟨frB_dr (thr_fr 0 M) dr, frB_qr (thr_fr 0 M) qr, frB_sr (thr_fr 0 M) sr, frB_c (thr_fr 0 M)⟩ f2) (by omega)) (iRR_of (frB_rr f2 (frB_rr (thr_fr 0 M) rr)) (fun i h => sI_ne (by omega)) (fun a i h1 h2 => ⟨sI_ne (by omega), rfl⟩)) (sI_hit _ _ _ _)
            · skip
              exact absurd c10 (by decide)
          · skip
            refine aw_iconst (v := nI 2) d_MO_belief_35 (by decide) ?_
            refine aw_goto (tgt := 40) d_MO_belief_36 (by decide) ?_
            refine aw_putI (ic := 57) (ci := 6) (k := 0) d_MO_belief_40 rfl rfl (by decide) rfl rfl rfl mw_775 ?_
            refine aw_aload_n d_MO_belief_43 rfl 0 rfl ?_
            refine aw_get (ic := 57) (ci := 6) (k := 0) d_MO_belief_44 rfl rfl (by decide) rfl mw_775 rfl ?_
            refine aw_eqi (nI (2)) (sI_hit _ _ _ _) ?_
            refine aw_if_leN (tgt := 52) d_MO_belief_47 (by decide) (by omega) (fun c14 => ?_) (fun c14 => ?_)
            · skip
              exact absurd c14 (by decide)
            · skip
              refine aw_dconst0 d_MO_belief_50 ?_
              refine aw_dret d_MO_belief_51 rfl (by decide) (by decide) ?_
              first | exact hE (by omega) | exact hF (by omega) (by omega) | (exfalso; omega)
        · skip
          refine aw_iconst (v := nI 1) d_MO_belief_24 (by decide) ?_
          refine aw_goto (tgt := 40) d_MO_belief_25 (by decide) ?_
          refine aw_putI (ic := 57) (ci := 6) (k := 0) d_MO_belief_40 rfl rfl (by decide) rfl rfl rfl mw_775 ?_
          refine aw_aload_n d_MO_belief_43 rfl 0 rfl ?_
          refine aw_get (ic := 57) (ci := 6) (k := 0) d_MO_belief_44 rfl rfl (by decide) rfl mw_775 rfl ?_
          refine aw_eqi (nI (1)) (sI_hit _ _ _ _) ?_
          refine aw_if_leN (tgt := 52) d_MO_belief_47 (by decide) (by omega) (fun c15 => ?_) (fun c15 => ?_)
          · skip
            exact absurd c15 (by decide)
          · skip
            refine aw_dconst0 d_MO_belief_50 ?_
            refine aw_dret d_MO_belief_51 rfl (by decide) (by decide) ?_
            first | exact hE (by omega) | exact hF (by omega) (by omega) | (exfalso; omega)
set_option maxRecDepth 4000 in
theorem R_search_bad {l : Launch} {M : ab_M} {Q : ab_O → ab_M → Prop} {x : Int32} (hb : x.toInt < 1 ∨ 10 < x.toInt) (hQ : Q (.inl (some (.int (nI 0)))) (thrM 1 M)) : AW sys l ab_Zt k_MO_search 5 129 0 [(0, .ref (57)), (1, .int (x))] [] M 0 0 Q := by
  refine aw_iload_n d_MO_search_0 rfl 1 rfl ?_
  refine aw_iconst (v := nI 1) d_MO_search_1 (by decide) ?_
  refine aw_bipush (v := nI 10) d_MO_search_2 (by decide) ?_
  refine aw_callS (K' := k_MO_in) (As := [.int (x), .int (nI (1)), .int (nI (10))]) (rest := []) d_MO_search_4 rfl cs_MO_54 rfl (Nat.le_of_ble_eq_true rfl) (Nat.le_of_ble_eq_true rfl) (by decide) (by decide) (d' := 0) (w' := 0) (by decide) (by decide) ?_
  show AW _ _ _ _ _ _ _ [(0, .int (x)), (1, .int (nI (1))), (2, .int (nI (10)))] _ _ _ _ _
  refine aw_iload_n d_MO_in_0 rfl 0 rfl ?_
  refine aw_iload_n d_MO_in_1 rfl 1 rfl ?_
  refine at_lt rfl (nI_toInt (by omega)) (tgt := 14) d_MO_in_2 (by decide) (fun c1 => ?_) (fun c1 => ?_)
  · skip
    refine aw_iconst (v := nI 0) d_MO_in_14 (by decide) ?_
    refine aw_zret (Or.inl rfl) d_MO_in_15 rfl (by decide) (by decide) (ab_go1 ?_)
    refine aw_if_neN (tgt := 16) d_MO_search_7 (by decide) (by omega) (fun c2 => ?_) (fun c2 => ?_)
    · skip
      exact absurd c2 (by decide)
    · skip
      refine aw_aload_n d_MO_search_10 rfl 0 rfl ?_
      refine aw_iconst (v := nI 1) d_MO_search_11 (by decide) ?_
      refine aw_callV (K' := k_MO_refuse) (As := [.int (nI (1))]) (rest := []) (b := 57) d_MO_search_12 rfl rfl rfl cs_MO_58 rfl (Nat.le_of_ble_eq_true rfl) (Nat.le_of_ble_eq_true rfl) (by decide) (by decide) (d' := 0) (w' := 0) (by decide) (by decide) ?_
      show AW _ _ _ _ _ _ _ [(0, .ref (57)), (1, .int (nI (1)))] _ _ _ _ _
      refine aw_aload_n d_MO_refuse_0 rfl 0 rfl ?_
      refine aw_iload_n d_MO_refuse_1 rfl 1 rfl ?_
      refine aw_putI (ic := 57) (ci := 6) (k := 0) d_MO_refuse_2 rfl rfl (by decide) rfl rfl rfl mw_775 ?_
      refine aw_iconst (v := nI 0) d_MO_refuse_5 (by decide) ?_
      refine aw_iret d_MO_refuse_6 rfl (by decide) (by decide) (ab_go1 ?_)
      refine aw_iret d_MO_search_15 rfl (by decide) (by decide) ?_
      first | exact hQ | (exfalso; omega)
  · skip
    refine aw_iload_n d_MO_in_5 rfl 0 rfl ?_
    refine aw_iload_n d_MO_in_6 rfl 2 rfl ?_
    refine at_gt rfl (nI_toInt (by omega)) (tgt := 14) d_MO_in_7 (by decide) (fun c3 => ?_) (fun c3 => ?_)
    · skip
      refine aw_iconst (v := nI 0) d_MO_in_14 (by decide) ?_
      refine aw_zret (Or.inl rfl) d_MO_in_15 rfl (by decide) (by decide) (ab_go1 ?_)
      refine aw_if_neN (tgt := 16) d_MO_search_7 (by decide) (by omega) (fun c4 => ?_) (fun c4 => ?_)
      · skip
        exact absurd c4 (by decide)
      · skip
        refine aw_aload_n d_MO_search_10 rfl 0 rfl ?_
        refine aw_iconst (v := nI 1) d_MO_search_11 (by decide) ?_
        refine aw_callV (K' := k_MO_refuse) (As := [.int (nI (1))]) (rest := []) (b := 57) d_MO_search_12 rfl rfl rfl cs_MO_58 rfl (Nat.le_of_ble_eq_true rfl) (Nat.le_of_ble_eq_true rfl) (by decide) (by decide) (d' := 0) (w' := 0) (by decide) (by decide) ?_
        show AW _ _ _ _ _ _ _ [(0, .ref (57)), (1, .int (nI (1)))] _ _ _ _ _
        refine aw_aload_n d_MO_refuse_0 rfl 0 rfl ?_
        refine aw_iload_n d_MO_refuse_1 rfl 1 rfl ?_
        refine aw_putI (ic := 57) (ci := 6) (k := 0) d_MO_refuse_2 rfl rfl (by decide) rfl rfl rfl mw_775 ?_
        refine aw_iconst (v := nI 0) d_MO_refuse_5 (by decide) ?_
        refine aw_iret d_MO_refuse_6 rfl (by decide) (by decide) (ab_go1 ?_)
        refine aw_iret d_MO_search_15 rfl (by decide) (by decide) ?_
        first | exact hQ | (exfalso; omega)
    · skip
      refine aw_iconst (v := nI 1) d_MO_in_10 (by decide) ?_
      refine aw_goto (tgt := 15) d_MO_in_11 (by decide) ?_
      refine aw_zret (Or.inr rfl) d_MO_in_15 rfl (by decide) (by decide) (ab_go1 ?_)
      refine aw_if_neN (tgt := 16) d_MO_search_7 (by decide) (by omega) (fun c5 => ?_) (fun c5 => ?_)
      · skip
        exfalso; omega
      · skip
        exact absurd c5 (by decide)
set_option maxRecDepth 4000 in
theorem R_search_loop {l : Launch} {M : ab_M} {Q : ab_O → ab_M → Prop} {D : Dg} {T : Qg} {S : Sg} (wd : wD D) (dr : iDR D M) (wq : wQ T) (qr : iQR T M) (ws : wS S) (sr : iSR S M) (h0 : op T (qn T) = 0) {k : Nat} (hk1 : 1 ≤ k) (hk10 : k ≤ 10) (hQ : ∀ M', iRR (srR S T D k) M' → keR D T S M M' → M'.1 57 0 = nI 0 → Q (.inl (some (.int (nI (rn (srR S T D k)))))) M') : ∀ (mm : Nat) (d : Nat) (M1 : ab_M), 12 - d = mm → (hd : d ≤ dn D) → (hf : keR D T S M M1) → (hz : M1.1 57 0 = nI 0) → (rr1 : iRR (rkS S T D d) M1) → AW sys l ab_Zt k_MO_search 5 129 46 [(2, .int (nI (d))), (0, .ref (57)), (1, .int (nI (k)))] [] M1 0 0 Q := by
  intro mm
  induction mm using Nat.strongRecOn with
  | ind mm ih =>
    intro d M1 hk hd hf hz rr1
    have h12 := wd.1
    have h24 := wq.1
    have hop := op_le (T := T) (qn T) (fun t h => wq.2.1 t h)
    have hl24 := wd.2.1 d
    have hrk := rkS_n S T D d
    have hok := rkS_ok ws wd wq h0 d hd
    refine aw_iload_n d_MO_search_46 rfl 0 rfl ?_
    refine aw_aload_n d_MO_search_47 rfl 1 rfl ?_
    refine aw_get (ic := 57) (ci := 6) (k := 4) d_MO_search_48 rfl rfl (by decide) rfl mw_779 rfl ?_
    refine aw_eqi (nI (dn D)) hf.1.1 ?_
    refine aw_icmp_geN (tgt := 104) d_MO_search_51 (by decide) (by omega) (by omega) (fun c1 => ?_) (fun c1 => ?_)
    · skip
      refine aw_aload_n d_MO_search_104 rfl 1 rfl ?_
      refine aw_get (ic := 57) (ci := 6) (k := 18) d_MO_search_105 rfl rfl (by decide) rfl mw_793 rfl ?_
      refine aw_eqi (nI (rn (rkS S T D d))) rr1.1 ?_
      refine aw_iload_n d_MO_search_108 rfl 2 rfl ?_
      refine aw_icmp_leN (tgt := 117) d_MO_search_109 (by decide) (by omega) (by omega) (fun c2 => ?_) (fun c2 => ?_)
      · skip
        refine aw_aload_n d_MO_search_117 rfl 1 rfl ?_
        refine aw_get (ic := 57) (ci := 6) (k := 18) d_MO_search_118 rfl rfl (by decide) rfl mw_793 rfl ?_
        refine aw_eqi (nI (rn (rkS S T D d))) rr1.1 ?_
        refine aw_iret d_MO_search_121 rfl (by decide) (by decide) ?_
        have em : rn (srR S T D k) = rn (rkS S T D d) := by show min (rn (rkS S T D (dn D))) k = _; rw [show dn D = d by omega]; omega
        exact q_n em.symm (hQ _ ⟨by rw [em]; exact rr1.1, by show _ = nI (ro (rkS S T D (dn D))); rw [show dn D = d by omega]; exact rr1.2.1, fun i hi => by show _ = nI (rd (rkS S T D (dn D)) i); rw [show dn D = d by omega]; exact rr1.2.2.1 i (by rw [em] at hi; exact hi), fun i hi => by show _ = rb (rkS S T D (dn D)) i; rw [show dn D = d by omega]; exact rr1.2.2.2 i (by rw [em] at hi; exact hi)⟩ hf hz)
      · skip
        refine aw_aload_n d_MO_search_112 rfl 1 rfl ?_
        refine aw_iload_n d_MO_search_113 rfl 2 rfl ?_
        refine aw_putI (ic := 57) (ci := 6) (k := 18) d_MO_search_114 rfl rfl (by decide) rfl rfl rfl mw_793 ?_
        refine aw_aload_n d_MO_search_117 rfl 1 rfl ?_
        refine aw_get (ic := 57) (ci := 6) (k := 18) d_MO_search_118 rfl rfl (by decide) rfl mw_793 rfl ?_
        refine aw_eqi (nI (k)) (sI_hit _ _ _ _) ?_
        refine aw_iret d_MO_search_121 rfl (by decide) (by decide) ?_
        have em : rn (srR S T D k) = k := by show min (rn (rkS S T D (dn D))) k = _; rw [show dn D = d by omega]; omega
        exact q_n em.symm (hQ _ ⟨by rw [em]; exact sI_hit _ _ _ _, by rw [sI_ne (by omega)]; show _ = nI (ro (rkS S T D (dn D))); rw [show dn D = d by omega]; exact rr1.2.1, fun i hi => by rw [sI_ne (by omega)]; show _ = nI (rd (rkS S T D (dn D)) i); rw [show dn D = d by omega]; exact rr1.2.2.1 i (by rw [em] at hi; omega), fun i hi => by rw [sI_2]; show _ = rb (rkS S T D (dn D)) i; rw [show dn D = d by omega]; exact rr1.2.2.2 i (by rw [em] at hi; omega)⟩ (keR_I hf (by omega)) (by rw [sI_ne (by omega)]; exact hz))
    · skip
      refine aw_aload_n d_MO_search_54 rfl 1 rfl ?_
      refine aw_get (ic := 57) (ci := 6) (k := 2) (v := .ref 59) d_MO_search_55 rfl rfl (by decide) rfl mw_777 rfl ?_
      refine aw_iload_n d_MO_search_58 rfl 0 rfl ?_
      refine aw_ialdN d_MO_search_59 rfl (by decide) (by omega) ?_
      refine aw_eqi (nI (dl D d)) (hf.1.2.1 _ (by omega)) ?_
      refine aw_if_neN (tgt := 66) d_MO_search_60 (by decide) (by omega) (fun c3 => ?_) (fun c3 => ?_)
      · skip
        refine aw_aload_n d_MO_search_66 rfl 1 rfl ?_
        refine aw_iload_n d_MO_search_67 rfl 0 rfl ?_
        refine aw_callV (K' := k_MO_believed) (As := [.int (nI (d))]) (rest := []) (b := 57) d_MO_search_68 rfl rfl rfl cs_MO_142 rfl (Nat.le_of_ble_eq_true rfl) (Nat.le_of_ble_eq_true rfl) (by decide) (by decide) (d' := 4) (w' := 102) (by decide) (by decide) ?_
        show AW _ _ _ _ _ _ _ [(0, .ref (57)), (1, .int (nI (d)))] _ _ _ _ _
        refine B_believed wd hf.1 wq hf.2.1 ws hf.2.2.1 h0 (by omega) (by omega) (fun M2 f2 z2 o2 => ?_)
        refine ab_go1 ?_
        refine aw_dstore_n (lv' := [(3, .double (bl S T D d (qn T) 0)), (2, .int (nI (d))), (0, .ref (57)), (1, .int (nI (k)))]) d_MO_search_71 rfl (by decide) rfl ?_
        refine aw_aload_n d_MO_search_72 rfl 2 rfl ?_
        refine aw_get (ic := 57) (ci := 6) (k := 15) d_MO_search_73 rfl rfl (by decide) rfl mw_790 rfl ?_
        refine aw_eqi (nI (bN (outB T D (bl S T D d (qn T)) d))) o2 ?_
        refine aw_if_eqB (tgt := 92) d_MO_search_76 (by decide) (fun c4 => ?_) (fun c4 => ?_)
        · skip
          refine aw_aload_n d_MO_search_92 rfl 2 rfl ?_
          refine aw_iload_n d_MO_search_93 rfl 1 rfl ?_
          refine aw_dload_n d_MO_search_94 rfl 0 rfl ?_
          refine aw_callV (K' := k_MO_come) (As := [.int (nI (d)), .double (bl S T D d (qn T) 0)]) (rest := []) (b := 57) d_MO_search_95 rfl rfl rfl cs_MO_152 rfl (Nat.le_of_ble_eq_true rfl) (Nat.le_of_ble_eq_true rfl) (by decide) (by decide) (d' := 0) (w' := 0) (by decide) (by decide) ?_
          show AW _ _ _ _ _ _ _ [(0, .ref (57)), (1, .int (nI (d))), (2, .double (bl S T D d (qn T) 0))] _ _ _ _ _
          refine B_come (by omega) (frB_rr f2 rr1) (bl_01 ws wd wq h0 (by omega) (by omega) _ (Nat.le_refl _) 0 (by omega) (qn_pos h0)).1 (fun i hi => (hok i hi).2.2.1) (fun M3 f3 r3 => ?_)
          refine ab_go0 ?_
          refine aw_iinc (v := (nI (d + 1))) (lv' := [(2, .int (nI (d + 1))), (3, .double (bl S T D d (qn T) 0)), (0, .ref (57)), (1, .int (nI (k)))]) d_MO_search_98 (j := 1) rfl (nI_add (d) 1) (by decide) rfl ?_
          refine aw_goto (tgt := 46) d_MO_search_101 (by decide) ?_
          refine aw_pick [0, 2, 3] rfl ?_
          exact ih _ (by omega) (d + 1) M3 rfl (by omega) (keR_P (keR_B hf f2) f3) (by rw [f3.1 _ _ (by omega) (by omega), z2]; exact hz) (by simp only [rkS]; rw [if_neg (by omega)]; simp only [stepR]; rw [if_neg (by rw [c4]; decide)]; exact r3)
        · skip
          refine aw_aload_n d_MO_search_79 rfl 2 rfl ?_
          refine aw_dup d_MO_search_80 rfl ?_
          refine aw_get (ic := 57) (ci := 6) (k := 19) d_MO_search_81 rfl rfl (by decide) rfl mw_794 rfl ?_
          refine aw_eqi (nI (ro (rkS S T D d))) (frB_rr f2 rr1).2.1 ?_
          refine aw_iconst (v := nI 1) d_MO_search_84 (by decide) ?_
          refine aw_iaddN d_MO_search_85 ?_
          refine aw_putI (ic := 57) (ci := 6) (k := 19) d_MO_search_86 rfl rfl (by decide) rfl rfl rfl mw_794 ?_
          refine aw_goto (tgt := 98) d_MO_search_89 (by decide) ?_
          refine aw_iinc (v := (nI (d + 1))) (lv' := [(2, .int (nI (d + 1))), (3, .double (bl S T D d (qn T) 0)), (0, .ref (57)), (1, .int (nI (k)))]) d_MO_search_98 (j := 1) rfl (nI_add (d) 1) (by decide) rfl ?_
          refine aw_goto (tgt := 46) d_MO_search_101 (by decide) ?_
          refine aw_pick [0, 2, 3] rfl ?_
          exact ih _ (by omega) (d + 1) (ab_sI M2 (57) (19) (nI (ro (rkS S T D d) + 1))) rfl (by omega) (keR_I (keR_B hf f2) (by omega)) (by rw [sI_ne (by omega), z2]; exact hz) (by simp only [rkS]; rw [if_neg (by omega)]; simp only [stepR]; rw [if_pos c4]; have r9 := frB_rr f2 rr1; exact ⟨by rw [sI_ne (by omega)]; exact r9.1, sI_hit _ _ _ _, fun i hi => by rw [sI_ne (by omega)]; exact r9.2.2.1 i hi, fun i hi => by rw [sI_2]; exact r9.2.2.2 i hi⟩)
      · skip
        refine aw_goto (tgt := 98) d_MO_search_63 (by decide) ?_
        refine aw_iinc (v := (nI (d + 1))) (lv' := [(2, .int (nI (d + 1))), (0, .ref (57)), (1, .int (nI (k)))]) d_MO_search_98 (j := 0) rfl (nI_add (d) 1) (by decide) rfl ?_
        refine aw_goto (tgt := 46) d_MO_search_101 (by decide) ?_
        exact ih _ (by omega) (d + 1) M1 rfl (by omega) hf hz (by simp only [rkS]; rw [if_pos (by omega)]; exact rr1)
set_option maxRecDepth 4000 in
theorem R_search {l : Launch} {M : ab_M} {Q : ab_O → ab_M → Prop} {D : Dg} {T : Qg} {S : Sg} (wd : wD D) (dr : iDR D M) (wq : wQ T) (qr : iQR T M) (ws : wS S) (sr : iSR S M) {k : Nat} (hk1 : 1 ≤ k) (hk10 : k ≤ 10) (hF : op T (qn T) ≠ 0 → Q (.inl (some (.int (nI 0)))) (thrM 2 M)) (hO : op T (qn T) = 0 → ∀ M', iRR (srR S T D k) M' → keR D T S M M' → M'.1 57 0 = nI 0 → Q (.inl (some (.int (nI (rn (srR S T D k)))))) M') : AW sys l ab_Zt k_MO_search 5 129 0 [(0, .ref (57)), (1, .int (nI (k)))] [] M 0 0 Q := by
  have h12 := wd.1
  have h24 := wq.1
  have hop := op_le (T := T) (qn T) (fun t h => wq.2.1 t h)
  refine aw_iload_n d_MO_search_0 rfl 1 rfl ?_
  refine aw_iconst (v := nI 1) d_MO_search_1 (by decide) ?_
  refine aw_bipush (v := nI 10) d_MO_search_2 (by decide) ?_
  refine aw_callS (K' := k_MO_in) (As := [.int (nI (k)), .int (nI (1)), .int (nI (10))]) (rest := []) d_MO_search_4 rfl cs_MO_54 rfl (Nat.le_of_ble_eq_true rfl) (Nat.le_of_ble_eq_true rfl) (by decide) (by decide) (d' := 0) (w' := 0) (by decide) (by decide) ?_
  show AW _ _ _ _ _ _ _ [(0, .int (nI (k))), (1, .int (nI (1))), (2, .int (nI (10)))] _ _ _ _ _
  refine aw_iload_n d_MO_in_0 rfl 0 rfl ?_
  refine aw_iload_n d_MO_in_1 rfl 1 rfl ?_
  refine aw_icmp_ltN (tgt := 14) d_MO_in_2 (by decide) (by omega) (by omega) (fun c1 => ?_) (fun c1 => ?_)
  · skip
    refine aw_iconst (v := nI 0) d_MO_in_14 (by decide) ?_
    refine aw_zret (Or.inl rfl) d_MO_in_15 rfl (by decide) (by decide) (ab_go1 ?_)
    refine aw_if_neN (tgt := 16) d_MO_search_7 (by decide) (by omega) (fun c2 => ?_) (fun c2 => ?_)
    · skip
      exact absurd c2 (by decide)
    · skip
      exfalso; omega
  · skip
    refine aw_iload_n d_MO_in_5 rfl 0 rfl ?_
    refine aw_iload_n d_MO_in_6 rfl 2 rfl ?_
    refine aw_icmp_gtN (tgt := 14) d_MO_in_7 (by decide) (by omega) (by omega) (fun c3 => ?_) (fun c3 => ?_)
    · skip
      refine aw_iconst (v := nI 0) d_MO_in_14 (by decide) ?_
      refine aw_zret (Or.inl rfl) d_MO_in_15 rfl (by decide) (by decide) (ab_go1 ?_)
      refine aw_if_neN (tgt := 16) d_MO_search_7 (by decide) (by omega) (fun c4 => ?_) (fun c4 => ?_)
      · skip
        exact absurd c4 (by decide)
      · skip
        exfalso; omega
    · skip
      refine aw_iconst (v := nI 1) d_MO_in_10 (by decide) ?_
      refine aw_goto (tgt := 15) d_MO_in_11 (by decide) ?_
      refine aw_zret (Or.inr rfl) d_MO_in_15 rfl (by decide) (by decide) (ab_go1 ?_)
      refine aw_if_neN (tgt := 16) d_MO_search_7 (by decide) (by omega) (fun c5 => ?_) (fun c5 => ?_)
      · skip
        refine aw_aload_n d_MO_search_16 rfl 0 rfl ?_
        refine aw_callV (K' := k_MO_open) (As := []) (rest := []) (b := 57) d_MO_search_17 rfl rfl rfl cs_MO_84 rfl (Nat.le_of_ble_eq_true rfl) (Nat.le_of_ble_eq_true rfl) (by decide) (by decide) (d' := 1) (w' := 22) (by decide) (by decide) ?_
        show AW _ _ _ _ _ _ _ [(0, .ref (57))] _ _ _ _ _
        refine B_open wq qr ?_
        refine ab_go1 ?_
        refine aw_if_leN (tgt := 29) d_MO_search_20 (by decide) (by omega) (fun c6 => ?_) (fun c6 => ?_)
        · skip
          refine aw_aload_n d_MO_search_29 rfl 0 rfl ?_
          refine aw_iconst (v := nI 0) d_MO_search_30 (by decide) ?_
          refine aw_putI (ic := 57) (ci := 6) (k := 0) d_MO_search_31 rfl rfl (by decide) rfl rfl rfl mw_775 ?_
          refine aw_aload_n d_MO_search_34 rfl 0 rfl ?_
          refine aw_iconst (v := nI 0) d_MO_search_35 (by decide) ?_
          refine aw_putI (ic := 57) (ci := 6) (k := 18) d_MO_search_36 rfl rfl (by decide) rfl rfl rfl mw_793 ?_
          refine aw_aload_n d_MO_search_39 rfl 0 rfl ?_
          refine aw_iconst (v := nI 0) d_MO_search_40 (by decide) ?_
          refine aw_putI (ic := 57) (ci := 6) (k := 19) d_MO_search_41 rfl rfl (by decide) rfl rfl rfl mw_794 ?_
          refine aw_iconst (v := nI 0) d_MO_search_44 (by decide) ?_
          refine aw_istore_n (lv' := [(2, .int (nI (0))), (0, .ref (57)), (1, .int (nI (k)))]) d_MO_search_45 rfl (by decide) rfl ?_
          exact R_search_loop wd dr wq qr ws sr (by omega) hk1 hk10 (fun M' => hO (by omega) M') _ 0 _ rfl (by omega) (keR_I (keR_I (keR_I ⟨dr, qr, sr, frC_refl M⟩ (by omega)) (by omega)) (by omega)) (by rw [sI_ne (by omega), sI_ne (by omega), sI_hit]) ⟨by rw [sI_ne (by omega), sI_hit]; rfl, by rw [sI_hit]; rfl, fun i hi => absurd hi (by show ¬ i < 0; omega), fun i hi => absurd hi (by show ¬ i < 0; omega)⟩
        · skip
          refine aw_aload_n d_MO_search_23 rfl 0 rfl ?_
          refine aw_iconst (v := nI 2) d_MO_search_24 (by decide) ?_
          refine aw_callV (K' := k_MO_refuse) (As := [.int (nI (2))]) (rest := []) (b := 57) d_MO_search_25 rfl rfl rfl cs_MO_58 rfl (Nat.le_of_ble_eq_true rfl) (Nat.le_of_ble_eq_true rfl) (by decide) (by decide) (d' := 0) (w' := 0) (by decide) (by decide) ?_
          show AW _ _ _ _ _ _ _ [(0, .ref (57)), (1, .int (nI (2)))] _ _ _ _ _
          refine aw_aload_n d_MO_refuse_0 rfl 0 rfl ?_
          refine aw_iload_n d_MO_refuse_1 rfl 1 rfl ?_
          refine aw_putI (ic := 57) (ci := 6) (k := 0) d_MO_refuse_2 rfl rfl (by decide) rfl rfl rfl mw_775 ?_
          refine aw_iconst (v := nI 0) d_MO_refuse_5 (by decide) ?_
          refine aw_iret d_MO_refuse_6 rfl (by decide) (by decide) (ab_go1 ?_)
          refine aw_iret d_MO_search_28 rfl (by decide) (by decide) ?_
          exact hF (by omega)
      · skip
        exact absurd c5 (by decide)
