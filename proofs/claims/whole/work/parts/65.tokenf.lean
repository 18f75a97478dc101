/-! token at the FACE (rows laid by gen/m14.py) -/
def addR (T : Qg) (k a : Nat) (w : UInt64) (M : ab_M) : ab_M := ab_sI (ab_sD (ab_sI (ab_sI (ab_sI M 57 0 (nI 0)) 61 (qn T) (nI k)) 62 (qn T) (nI a)) 63 (qn T) w) 57 8 (nI (qn T + 1))
def adR (T : Qg) (k a : Nat) (w : UInt64) (M : ab_M) : ab_M := ab_sI (ab_sD (ab_sI (ab_sI M 61 (qn T) (nI k)) 62 (qn T) (nI a)) 63 (qn T) w) 57 8 (nI (qn T + 1))
theorem adR_i {T : Qg} {k a : Nat} {w : UInt64} {M : ab_M} (h : iQR T M) : iQR (addQ T k a w) (adR T k a w M) := by
  refine ⟨sI_hit _ _ _ _, fun t ht => ?_, fun t ht => ?_, fun t ht => ?_⟩
  · rw [addQ_n] at ht
    simp only [adR]
    rw [sI_ne (by omega), sD_1, sI_ne (by omega)]
    rcases Nat.eq_or_lt_of_le (Nat.le_of_lt_succ ht) with e | e
    · rw [e, sI_hit, addQ_k']
    · rw [sI_ne (by omega), addQ_k e]; exact h.2.1 t e
  · rw [addQ_n] at ht
    simp only [adR]
    rw [sI_ne (by omega), sD_1]
    rcases Nat.eq_or_lt_of_le (Nat.le_of_lt_succ ht) with e | e
    · rw [e, sI_hit, addQ_a']
    · rw [sI_ne (by omega), sI_ne (by omega), addQ_a e]; exact h.2.2.1 t e
  · rw [addQ_n] at ht
    simp only [adR]
    rw [sI_2]
    rcases Nat.eq_or_lt_of_le (Nat.le_of_lt_succ ht) with e | e
    · rw [e, sD_hit, addQ_w']
    · rw [sD_ne (by omega), addQ_w e]; exact h.2.2.2 t e

set_option maxRecDepth 4000 in
theorem C_token {l : Launch} {M : ab_M} {Q : ab_O → ab_M → Prop} (hl : l.stackTraces = false) {T : Qg} {k a : Nat} {w : UInt64} (wq : wQ T) (qc : iQC T M) (fw : fF w) (hN : nmP (nI k).toInt (nI a).toInt) (hW : wtP (nI k).toInt (fz w)) (hg : gTok k a w) (hF : qn T = 24 ∨ op T (qn T) = 0 → Q (.inr "java/lang/IllegalStateException") M) (hG : qn T < 24 → op T (qn T) ≠ 0 → 0 < tw T (qn T) → k ≠ 0 → Q (.inr "java/lang/UnsupportedOperationException") M) (hO : qn T < 24 → op T (qn T) ≠ 0 → (0 < tw T (qn T) → k = 0) → ∀ M', iQC (addQ T k a w) M' → (∀ b i, b < 17 ∨ 21 < b → M'.1 b i = M.1 b i ∧ M'.2.1 b i = M.2.1 b i ∧ M'.2.2 b i = M.2.2 b i) → Q (.inl (some (.int (nI (qn T + 1))))) M') : AW sys l ab_Zt k_BF_token 6 90 0 [(0, .ref (0)), (1, .int (nI (k))), (2, .int (nI (a))), (3, .double (w))] [] M 0 0 Q := by
  have h24 := wq.1
  have hk11 := hg.1
  have htw := tw_le (T := T) (qn T) (fun t h => wq.2.1 t h)
  have hop := op_le (T := T) (qn T) (fun t h => wq.2.1 t h)
  refine aw_iload_n d_BF_token_0 rfl 1 rfl ?_
  refine aw_iload_n d_BF_token_1 rfl 2 rfl ?_
  refine aw_callS (K' := k_BF_isNumberOf) (As := [.int (nI (k)), .int (nI (a))]) (rest := []) d_BF_token_2 rfl cs_BF_96 rfl (Nat.le_of_ble_eq_true rfl) (Nat.le_of_ble_eq_true rfl) (by decide) (by decide) (d' := 1) (w' := 20) (by decide) (by decide) ?_
  show AW _ _ _ _ _ _ _ [(0, .int (nI (k))), (1, .int (nI (a)))] _ _ _ _ _
  refine A_isNumberOf (fun _ => ?_) (fun h => absurd hN h)
  refine ab_go1 ?_
  refine aw_if_neN (tgt := 18) d_BF_token_5 (by decide) (by omega) (fun c1 => ?_) (fun c1 => ?_)
  · skip
    refine aw_iload_n d_BF_token_18 rfl 1 rfl ?_
    refine aw_dload_n d_BF_token_19 rfl 3 rfl ?_
    refine aw_callS (K' := k_BF_isWeightOf) (As := [.int (nI (k)), .double (w)]) (rest := []) d_BF_token_20 rfl cs_BF_102 rfl (Nat.le_of_ble_eq_true rfl) (Nat.le_of_ble_eq_true rfl) (by decide) (by decide) (d' := 1) (w' := 23) (by decide) (by decide) ?_
    show AW _ _ _ _ _ _ _ [(0, .int (nI (k))), (1, .double (w))] _ _ _ _ _
    refine A_isWeightOf fw (fun _ => ?_) (fun h => absurd hW h)
    refine ab_go1 ?_
    refine aw_if_neN (tgt := 36) d_BF_token_23 (by decide) (by omega) (fun c2 => ?_) (fun c2 => ?_)
    · skip
      refine aw_aload_n d_BF_token_36 rfl 0 rfl ?_
      refine aw_get (ic := 0) (ci := 0) (k := 1) (v := .ref 17) d_BF_token_37 rfl rfl (by decide) rfl mw_190 rfl ?_
      refine aw_callV (K' := k_QU_isFull) (As := []) (rest := []) (b := 17) d_BF_token_40 rfl rfl rfl cs_BF_108 rfl (Nat.le_of_ble_eq_true rfl) (Nat.le_of_ble_eq_true rfl) (by decide) (by decide) (d' := 0) (w' := 0) (by decide) (by decide) ?_
      show AW _ _ _ _ _ _ _ [(0, .ref (17))] _ _ _ _ _
      refine aw_aload_n d_QU_isFull_0 rfl 0 rfl ?_
      refine aw_get (ic := 17) (ci := 2) (k := 4) d_QU_isFull_1 rfl rfl (by decide) rfl mw_96 rfl ?_
      refine aw_eqi (nI (qn T)) qc.1 ?_
      refine aw_bipush (v := nI 24) d_QU_isFull_4 (by decide) ?_
      refine aw_icmp_neN (tgt := 13) d_QU_isFull_6 (by decide) (by omega) (by omega) (fun c3 => ?_) (fun c3 => ?_)
      · skip
        refine aw_iconst (v := nI 0) d_QU_isFull_13 (by decide) ?_
        refine aw_zret (Or.inl rfl) d_QU_isFull_14 rfl (by decide) (by decide) (ab_go1 ?_)
        refine aw_if_neN (tgt := 56) d_BF_token_43 (by decide) (by omega) (fun c4 => ?_) (fun c4 => ?_)
        · skip
          exact absurd c4 (by decide)
        · skip
          refine aw_aload_n d_BF_token_46 rfl 0 rfl ?_
          refine aw_get (ic := 0) (ci := 0) (k := 1) (v := .ref 17) d_BF_token_47 rfl rfl (by decide) rfl mw_190 rfl ?_
          refine aw_callV (K' := k_QU_isWhole) (As := []) (rest := []) (b := 17) d_BF_token_50 rfl rfl rfl cs_BF_109 rfl (Nat.le_of_ble_eq_true rfl) (Nat.le_of_ble_eq_true rfl) (by decide) (by decide) (d' := 0) (w' := 0) (by decide) (by decide) ?_
          show AW _ _ _ _ _ _ _ [(0, .ref (17))] _ _ _ _ _
          refine aw_aload_n d_QU_isWhole_0 rfl 0 rfl ?_
          refine aw_get (ic := 17) (ci := 2) (k := 5) d_QU_isWhole_1 rfl rfl (by decide) rfl mw_97 rfl ?_
          refine aw_eqi (nI (op T (qn T))) qc.2.2.2.2.1 ?_
          refine aw_if_neN (tgt := 11) d_QU_isWhole_4 (by decide) (by omega) (fun c5 => ?_) (fun c5 => ?_)
          · skip
            refine aw_iconst (v := nI 0) d_QU_isWhole_11 (by decide) ?_
            refine aw_zret (Or.inl rfl) d_QU_isWhole_12 rfl (by decide) (by decide) (ab_go1 ?_)
            refine aw_if_eqN (tgt := 66) d_BF_token_53 (by decide) (by omega) (fun c6 => ?_) (fun c6 => ?_)
            · skip
              refine aw_aload_n d_BF_token_66 rfl 0 rfl ?_
              refine aw_get (ic := 0) (ci := 0) (k := 1) (v := .ref 17) d_BF_token_67 rfl rfl (by decide) rfl mw_190 rfl ?_
              refine aw_callV (K' := k_QU_wantsTerm) (As := []) (rest := []) (b := 17) d_BF_token_70 rfl rfl rfl cs_BF_114 rfl (Nat.le_of_ble_eq_true rfl) (Nat.le_of_ble_eq_true rfl) (by decide) (by decide) (d' := 0) (w' := 0) (by decide) (by decide) ?_
              show AW _ _ _ _ _ _ _ [(0, .ref (17))] _ _ _ _ _
              refine aw_aload_n d_QU_wantsTerm_0 rfl 0 rfl ?_
              refine aw_get (ic := 17) (ci := 2) (k := 6) d_QU_wantsTerm_1 rfl rfl (by decide) rfl mw_98 rfl ?_
              refine aw_eqi (nI (tw T (qn T))) qc.2.2.2.2.2.1 ?_
              refine aw_if_leN (tgt := 11) d_QU_wantsTerm_4 (by decide) (by omega) (fun c7 => ?_) (fun c7 => ?_)
              · skip
                refine aw_iconst (v := nI 0) d_QU_wantsTerm_11 (by decide) ?_
                refine aw_zret (Or.inl rfl) d_QU_wantsTerm_12 rfl (by decide) (by decide) (ab_go1 ?_)
                refine aw_if_eqN (tgt := 90) d_BF_token_73 (by decide) (by omega) (fun c8 => ?_) (fun c8 => ?_)
                · skip
                  refine aw_aload_n d_BF_token_90 rfl 0 rfl ?_
                  refine aw_get (ic := 0) (ci := 0) (k := 1) (v := .ref 17) d_BF_token_91 rfl rfl (by decide) rfl mw_190 rfl ?_
                  refine aw_iload_n d_BF_token_94 rfl 1 rfl ?_
                  refine aw_iload_n d_BF_token_95 rfl 2 rfl ?_
                  refine aw_dload_n d_BF_token_96 rfl 3 rfl ?_
                  refine aw_callV (K' := k_QU_append) (As := [.int (nI (k)), .int (nI (a)), .double (w)]) (rest := []) (b := 17) d_BF_token_97 rfl rfl rfl cs_BF_122 rfl (Nat.le_of_ble_eq_true rfl) (Nat.le_of_ble_eq_true rfl) (by decide) (by decide) (d' := 2) (w' := 45) (by decide) (by decide) ?_
                  show AW _ _ _ _ _ _ _ [(0, .ref (17)), (1, .int (nI (k))), (2, .int (nI (a))), (3, .double (w))] _ _ _ _ _
                  refine A_append wq qc (by omega) (by omega) hg (by omega) (fun M' q1 q2 => ?_)
                  refine ab_go1 ?_
                  refine aw_iret d_BF_token_100 rfl (by decide) (by decide) ?_
                  exact hO (by omega) (by omega) (by omega) M' q1 q2
                · skip
                  exact absurd c8 (by decide)
              · skip
                refine aw_iconst (v := nI 1) d_QU_wantsTerm_7 (by decide) ?_
                refine aw_goto (tgt := 12) d_QU_wantsTerm_8 (by decide) ?_
                refine aw_zret (Or.inr rfl) d_QU_wantsTerm_12 rfl (by decide) (by decide) (ab_go1 ?_)
                refine aw_if_eqN (tgt := 90) d_BF_token_73 (by decide) (by omega) (fun c9 => ?_) (fun c9 => ?_)
                · skip
                  exact absurd c9 (by decide)
                · skip
                  refine aw_iload_n d_BF_token_76 rfl 1 rfl ?_
                  refine aw_if_eqN (tgt := 90) d_BF_token_77 (by decide) (by omega) (fun c10 => ?_) (fun c10 => ?_)
                  · skip
                    refine aw_aload_n d_BF_token_90 rfl 0 rfl ?_
                    refine aw_get (ic := 0) (ci := 0) (k := 1) (v := .ref 17) d_BF_token_91 rfl rfl (by decide) rfl mw_190 rfl ?_
                    refine aw_iload_n d_BF_token_94 rfl 1 rfl ?_
                    refine aw_iload_n d_BF_token_95 rfl 2 rfl ?_
                    refine aw_dload_n d_BF_token_96 rfl 3 rfl ?_
                    refine aw_callV (K' := k_QU_append) (As := [.int (nI (k)), .int (nI (a)), .double (w)]) (rest := []) (b := 17) d_BF_token_97 rfl rfl rfl cs_BF_122 rfl (Nat.le_of_ble_eq_true rfl) (Nat.le_of_ble_eq_true rfl) (by decide) (by decide) (d' := 2) (w' := 45) (by decide) (by decide) ?_
                    show AW _ _ _ _ _ _ _ [(0, .ref (17)), (1, .int (nI (k))), (2, .int (nI (a))), (3, .double (w))] _ _ _ _ _
                    refine A_append wq qc (by omega) (by omega) hg (by omega) (fun M' q1 q2 => ?_)
                    refine ab_go1 ?_
                    refine aw_iret d_BF_token_100 rfl (by decide) (by decide) ?_
                    exact hO (by omega) (by omega) (by omega) M' q1 q2
                  · skip
                    refine th_UOE hl rfl d_BF_token_80 d_BF_token_83 d_BF_token_84 d_BF_token_86 d_BF_token_89 (List.mem_of_getElem? (i := 9) rfl) rfl (by decide) (by decide) (by decide) (by decide) ?_
                    exact hG (by omega) (by omega) (by omega) (by omega)
            · skip
              exact absurd c6 (by decide)
          · skip
            refine aw_iconst (v := nI 1) d_QU_isWhole_7 (by decide) ?_
            refine aw_goto (tgt := 12) d_QU_isWhole_8 (by decide) ?_
            refine aw_zret (Or.inr rfl) d_QU_isWhole_12 rfl (by decide) (by decide) (ab_go1 ?_)
            refine aw_if_eqN (tgt := 66) d_BF_token_53 (by decide) (by omega) (fun c11 => ?_) (fun c11 => ?_)
            · skip
              exact absurd c11 (by decide)
            · skip
              refine th_ISE hl rfl d_BF_token_56 d_BF_token_59 d_BF_token_60 d_BF_token_62 d_BF_token_65 (List.mem_of_getElem? (i := 8) rfl) rfl (by decide) (by decide) (by decide) (by decide) ?_
              exact hF (by omega)
      · skip
        refine aw_iconst (v := nI 1) d_QU_isFull_9 (by decide) ?_
        refine aw_goto (tgt := 14) d_QU_isFull_10 (by decide) ?_
        refine aw_zret (Or.inr rfl) d_QU_isFull_14 rfl (by decide) (by decide) (ab_go1 ?_)
        refine aw_if_neN (tgt := 56) d_BF_token_43 (by decide) (by omega) (fun c12 => ?_) (fun c12 => ?_)
        · skip
          refine th_ISE hl rfl d_BF_token_56 d_BF_token_59 d_BF_token_60 d_BF_token_62 d_BF_token_65 (List.mem_of_getElem? (i := 8) rfl) rfl (by decide) (by decide) (by decide) (by decide) ?_
          exact hF (by omega)
        · skip
          exact absurd c12 (by decide)
    · skip
      exact absurd c2 (by decide)
  · skip
    exact absurd c1 (by decide)
set_option maxRecDepth 4000 in
theorem B_add {l : Launch} {M : ab_M} {Q : ab_O → ab_M → Prop} {T : Qg} {k a : Nat} {w : UInt64} (hn : qn T < 24) (qr : iQR T M) (hQ : Q (.inl none) (adR T k a w M)) : AW sys l ab_Zt k_MO_add 0 0 0 [(0, .ref (57)), (1, .int (nI (k))), (2, .int (nI (a))), (3, .double (w))] [] M 0 0 Q := by
  refine aw_aload_n d_MO_add_0 rfl 0 rfl ?_
  refine aw_get (ic := 57) (ci := 6) (k := 5) (v := .ref 61) d_MO_add_1 rfl rfl (by decide) rfl mw_780 rfl ?_
  refine aw_aload_n d_MO_add_4 rfl 0 rfl ?_
  refine aw_get (ic := 57) (ci := 6) (k := 8) d_MO_add_5 rfl rfl (by decide) rfl mw_783 rfl ?_
  refine aw_eqi (nI (qn T)) qr.1 ?_
  refine aw_iload_n d_MO_add_8 rfl 1 rfl ?_
  refine aw_iastN d_MO_add_9 rfl (by decide) (by omega) ?_
  refine aw_aload_n d_MO_add_10 rfl 0 rfl ?_
  refine aw_get (ic := 57) (ci := 6) (k := 6) (v := .ref 62) d_MO_add_11 rfl rfl (by decide) rfl mw_781 rfl ?_
  refine aw_aload_n d_MO_add_14 rfl 0 rfl ?_
  refine aw_get (ic := 57) (ci := 6) (k := 8) d_MO_add_15 rfl rfl (by decide) rfl mw_783 rfl ?_
  refine aw_eqi (nI (qn T)) (by (repeat (first | rw [sI_ne (by omega)] | rw [sD_1])); exact qr.1) ?_
  refine aw_iload_n d_MO_add_18 rfl 2 rfl ?_
  refine aw_iastN d_MO_add_19 rfl (by decide) (by omega) ?_
  refine aw_aload_n d_MO_add_20 rfl 0 rfl ?_
  refine aw_get (ic := 57) (ci := 6) (k := 7) (v := .ref 63) d_MO_add_21 rfl rfl (by decide) rfl mw_782 rfl ?_
  refine aw_aload_n d_MO_add_24 rfl 0 rfl ?_
  refine aw_get (ic := 57) (ci := 6) (k := 8) d_MO_add_25 rfl rfl (by decide) rfl mw_783 rfl ?_
  refine aw_eqi (nI (qn T)) (by (repeat (first | rw [sI_ne (by omega)] | rw [sD_1])); exact qr.1) ?_
  refine aw_dload_n d_MO_add_28 rfl 3 rfl ?_
  refine aw_dastN d_MO_add_29 rfl (by decide) (by omega) ?_
  refine aw_aload_n d_MO_add_30 rfl 0 rfl ?_
  refine aw_dup d_MO_add_31 rfl ?_
  refine aw_get (ic := 57) (ci := 6) (k := 8) d_MO_add_32 rfl rfl (by decide) rfl mw_783 rfl ?_
  refine aw_eqi (nI (qn T)) (by (repeat (first | rw [sI_ne (by omega)] | rw [sD_1])); exact qr.1) ?_
  refine aw_iconst (v := nI 1) d_MO_add_35 (by decide) ?_
  refine aw_iaddN d_MO_add_36 ?_
  refine aw_putI (ic := 57) (ci := 6) (k := 8) d_MO_add_37 rfl rfl (by decide) rfl rfl rfl mw_783 ?_
  refine aw_vret d_MO_add_40 rfl (by decide) (by decide) ?_
  exact hQ
set_option maxRecDepth 4000 in
theorem R_token_bad {l : Launch} {M : ab_M} {Q : ab_O → ab_M → Prop} {x y : Int32} {w : UInt64} (fw : fF w) (hb : ¬ (nmP x.toInt y.toInt ∧ wtP x.toInt (fz w))) (hQ : Q (.inl (some (.int (nI 0)))) (thrM 1 M)) : AW sys l ab_Zt k_MO_token 2 45 0 [(0, .ref (57)), (1, .int (x)), (2, .int (y)), (3, .double (w))] [] M 0 0 Q := by
  refine aw_iload_n d_MO_token_0 rfl 1 rfl ?_
  refine aw_iload_n d_MO_token_1 rfl 2 rfl ?_
  refine aw_dload_n d_MO_token_2 rfl 3 rfl ?_
  refine aw_callS (K' := k_MO_isGood) (As := [.int (x), .int (y), .double (w)]) (rest := []) d_MO_token_3 rfl cs_MO_80 rfl (Nat.le_of_ble_eq_true rfl) (Nat.le_of_ble_eq_true rfl) (by decide) (by decide) (d' := 1) (w' := 22) (by decide) (by decide) ?_
  show AW _ _ _ _ _ _ _ [(0, .int (x)), (1, .int (y)), (2, .double (w))] _ _ _ _ _
  refine B_isGood fw (fun h1 => ?_) (fun h1 => ?_)
  · refine ab_go1 ?_
    refine aw_if_neN (tgt := 15) d_MO_token_6 (by decide) (by omega) (fun c2 => ?_) (fun c2 => ?_)
    · skip
      exact absurd h1 hb
    · skip
      exact absurd c2 (by decide)
  · refine ab_go1 ?_
    refine aw_if_neN (tgt := 15) d_MO_token_6 (by decide) (by omega) (fun c3 => ?_) (fun c3 => ?_)
    · skip
      exact absurd c3 (by decide)
    · skip
      refine aw_aload_n d_MO_token_9 rfl 0 rfl ?_
      refine aw_iconst (v := nI 1) d_MO_token_10 (by decide) ?_
      refine aw_callV (K' := k_MO_refuse) (As := [.int (nI (1))]) (rest := []) (b := 57) d_MO_token_11 rfl rfl rfl cs_MO_58 rfl (Nat.le_of_ble_eq_true rfl) (Nat.le_of_ble_eq_true rfl) (by decide) (by decide) (d' := 0) (w' := 0) (by decide) (by decide) ?_
      show AW _ _ _ _ _ _ _ [(0, .ref (57)), (1, .int (nI (1)))] _ _ _ _ _
      refine aw_aload_n d_MO_refuse_0 rfl 0 rfl ?_
      refine aw_iload_n d_MO_refuse_1 rfl 1 rfl ?_
      refine aw_putI (ic := 57) (ci := 6) (k := 0) d_MO_refuse_2 rfl rfl (by decide) rfl rfl rfl mw_775 ?_
      refine aw_iconst (v := nI 0) d_MO_refuse_5 (by decide) ?_
      refine aw_iret d_MO_refuse_6 rfl (by decide) (by decide) (ab_go1 ?_)
      refine aw_iret d_MO_token_14 rfl (by decide) (by decide) ?_
      exact hQ
set_option maxRecDepth 4000 in
theorem R_token {l : Launch} {M : ab_M} {Q : ab_O → ab_M → Prop} {T : Qg} {k a : Nat} {w : UInt64} (wq : wQ T) (qr : iQR T M) (fw : fF w) (hN : nmP (nI k).toInt (nI a).toInt) (hW : wtP (nI k).toInt (fz w)) (hg : gTok k a w) (hF : qn T = 24 ∨ op T (qn T) = 0 → Q (.inl (some (.int (nI 0)))) (thrM 2 M)) (hG : qn T < 24 → op T (qn T) ≠ 0 → 0 < tw T (qn T) → k ≠ 0 → Q (.inl (some (.int (nI 0)))) (thrM 3 M)) (hO : qn T < 24 → op T (qn T) ≠ 0 → (0 < tw T (qn T) → k = 0) → Q (.inl (some (.int (nI (qn T + 1))))) (addR T k a w M)) : AW sys l ab_Zt k_MO_token 2 45 0 [(0, .ref (57)), (1, .int (nI (k))), (2, .int (nI (a))), (3, .double (w))] [] M 0 0 Q := by
  have h24 := wq.1
  have hk11 := hg.1
  have htw := tw_le (T := T) (qn T) (fun t h => wq.2.1 t h)
  have hop := op_le (T := T) (qn T) (fun t h => wq.2.1 t h)
  refine aw_iload_n d_MO_token_0 rfl 1 rfl ?_
  refine aw_iload_n d_MO_token_1 rfl 2 rfl ?_
  refine aw_dload_n d_MO_token_2 rfl 3 rfl ?_
  refine aw_callS (K' := k_MO_isGood) (As := [.int (nI (k)), .int (nI (a)), .double (w)]) (rest := []) d_MO_token_3 rfl cs_MO_80 rfl (Nat.le_of_ble_eq_true rfl) (Nat.le_of_ble_eq_true rfl) (by decide) (by decide) (d' := 1) (w' := 22) (by decide) (by decide) ?_
  show AW _ _ _ _ _ _ _ [(0, .int (nI (k))), (1, .int (nI (a))), (2, .double (w))] _ _ _ _ _
  refine B_isGood fw (fun _ => ?_) (fun h => absurd (And.intro hN hW) h)
  refine ab_go1 ?_
  refine aw_if_neN (tgt := 15) d_MO_token_6 (by decide) (by omega) (fun c1 => ?_) (fun c1 => ?_)
  · skip
    refine aw_aload_n d_MO_token_15 rfl 0 rfl ?_
    refine aw_get (ic := 57) (ci := 6) (k := 8) d_MO_token_16 rfl rfl (by decide) rfl mw_783 rfl ?_
    refine aw_eqi (nI (qn T)) qr.1 ?_
    refine aw_bipush (v := nI 24) d_MO_token_19 (by decide) ?_
    refine aw_icmp_eqN (tgt := 31) d_MO_token_21 (by decide) (by omega) (by omega) (fun c2 => ?_) (fun c2 => ?_)
    · skip
      refine aw_aload_n d_MO_token_31 rfl 0 rfl ?_
      refine aw_iconst (v := nI 2) d_MO_token_32 (by decide) ?_
      refine aw_callV (K' := k_MO_refuse) (As := [.int (nI (2))]) (rest := []) (b := 57) d_MO_token_33 rfl rfl rfl cs_MO_58 rfl (Nat.le_of_ble_eq_true rfl) (Nat.le_of_ble_eq_true rfl) (by decide) (by decide) (d' := 0) (w' := 0) (by decide) (by decide) ?_
      show AW _ _ _ _ _ _ _ [(0, .ref (57)), (1, .int (nI (2)))] _ _ _ _ _
      refine aw_aload_n d_MO_refuse_0 rfl 0 rfl ?_
      refine aw_iload_n d_MO_refuse_1 rfl 1 rfl ?_
      refine aw_putI (ic := 57) (ci := 6) (k := 0) d_MO_refuse_2 rfl rfl (by decide) rfl rfl rfl mw_775 ?_
      refine aw_iconst (v := nI 0) d_MO_refuse_5 (by decide) ?_
      refine aw_iret d_MO_refuse_6 rfl (by decide) (by decide) (ab_go1 ?_)
      refine aw_iret d_MO_token_36 rfl (by decide) (by decide) ?_
      first | exact hF (by omega) | exact hG (by omega) (by omega) (by omega) (by omega) | exact hO (by omega) (by omega) (by omega)
    · skip
      refine aw_aload_n d_MO_token_24 rfl 0 rfl ?_
      refine aw_callV (K' := k_MO_open) (As := []) (rest := []) (b := 57) d_MO_token_25 rfl rfl rfl cs_MO_84 rfl (Nat.le_of_ble_eq_true rfl) (Nat.le_of_ble_eq_true rfl) (by decide) (by decide) (d' := 1) (w' := 22) (by decide) (by decide) ?_
      show AW _ _ _ _ _ _ _ [(0, .ref (57))] _ _ _ _ _
      refine B_open wq qr ?_
      refine ab_go1 ?_
      refine aw_if_neN (tgt := 37) d_MO_token_28 (by decide) (by omega) (fun c3 => ?_) (fun c3 => ?_)
      · skip
        refine aw_aload_n d_MO_token_37 rfl 0 rfl ?_
        refine aw_callV (K' := k_MO_wantsTerm) (As := []) (rest := []) (b := 57) d_MO_token_38 rfl rfl rfl cs_MO_88 rfl (Nat.le_of_ble_eq_true rfl) (Nat.le_of_ble_eq_true rfl) (by decide) (by decide) (d' := 1) (w' := 22) (by decide) (by decide) ?_
        show AW _ _ _ _ _ _ _ [(0, .ref (57))] _ _ _ _ _
        refine B_wantsTerm wq qr ?_
        refine ab_go1 ?_
        refine aw_if_eqB (tgt := 54) d_MO_token_41 (by decide) (fun c4 => ?_) (fun c4 => ?_)
        · skip
          refine aw_aload_n d_MO_token_54 rfl 0 rfl ?_
          refine aw_iconst (v := nI 0) d_MO_token_55 (by decide) ?_
          refine aw_putI (ic := 57) (ci := 6) (k := 0) d_MO_token_56 rfl rfl (by decide) rfl rfl rfl mw_775 ?_
          refine aw_aload_n d_MO_token_59 rfl 0 rfl ?_
          refine aw_iload_n d_MO_token_60 rfl 1 rfl ?_
          refine aw_iload_n d_MO_token_61 rfl 2 rfl ?_
          refine aw_dload_n d_MO_token_62 rfl 3 rfl ?_
          refine aw_callV (K' := k_MO_add) (As := [.int (nI (k)), .int (nI (a)), .double (w)]) (rest := []) (b := 57) d_MO_token_63 rfl rfl rfl cs_MO_92 rfl (Nat.le_of_ble_eq_true rfl) (Nat.le_of_ble_eq_true rfl) (by decide) (by decide) (d' := 0) (w' := 0) (by decide) (by decide) ?_
          show AW _ _ _ _ _ _ _ [(0, .ref (57)), (1, .int (nI (k))), (2, .int (nI (a))), (3, .double (w))] _ _ _ _ _
          refine B_add (T := T) (by omega) (frB_qr (thr_fr 0 M) qr) ?_
          refine ab_go0 ?_
          refine aw_aload_n d_MO_token_66 rfl 0 rfl ?_
          refine aw_get (ic := 57) (ci := 6) (k := 8) d_MO_token_67 rfl rfl (by decide) rfl mw_783 rfl ?_
          refine aw_eqi (nI (qn T + 1)) (sI_hit _ _ _ _) ?_
          refine aw_iret d_MO_token_70 rfl (by decide) (by decide) ?_
          have h8 := of_decide_eq_false c4
          first | exact hF (by omega) | exact hG (by omega) (by omega) (by omega) (by omega) | exact hO (by omega) (by omega) (by omega)
        · skip
          refine aw_iload_n d_MO_token_44 rfl 1 rfl ?_
          refine aw_if_eqN (tgt := 54) d_MO_token_45 (by decide) (by omega) (fun c5 => ?_) (fun c5 => ?_)
          · skip
            refine aw_aload_n d_MO_token_54 rfl 0 rfl ?_
            refine aw_iconst (v := nI 0) d_MO_token_55 (by decide) ?_
            refine aw_putI (ic := 57) (ci := 6) (k := 0) d_MO_token_56 rfl rfl (by decide) rfl rfl rfl mw_775 ?_
            refine aw_aload_n d_MO_token_59 rfl 0 rfl ?_
            refine aw_iload_n d_MO_token_60 rfl 1 rfl ?_
            refine aw_iload_n d_MO_token_61 rfl 2 rfl ?_
            refine aw_dload_n d_MO_token_62 rfl 3 rfl ?_
            refine aw_callV (K' := k_MO_add) (As := [.int (nI (k)), .int (nI (a)), .double (w)]) (rest := []) (b := 57) d_MO_token_63 rfl rfl rfl cs_MO_92 rfl (Nat.le_of_ble_eq_true rfl) (Nat.le_of_ble_eq_true rfl) (by decide) (by decide) (d' := 0) (w' := 0) (by decide) (by decide) ?_
            show AW _ _ _ _ _ _ _ [(0, .ref (57)), (1, .int (nI (k))), (2, .int (nI (a))), (3, .double (w))] _ _ _ _ _
            refine B_add (T := T) (by omega) (frB_qr (thr_fr 0 M) qr) ?_
            refine ab_go0 ?_
            refine aw_aload_n d_MO_token_66 rfl 0 rfl ?_
            refine aw_get (ic := 57) (ci := 6) (k := 8) d_MO_token_67 rfl rfl (by decide) rfl mw_783 rfl ?_
            refine aw_eqi (nI (qn T + 1)) (sI_hit _ _ _ _) ?_
            refine aw_iret d_MO_token_70 rfl (by decide) (by decide) ?_
            have h8 := of_decide_eq_true c4
            first | exact hF (by omega) | exact hG (by omega) (by omega) (by omega) (by omega) | exact hO (by omega) (by omega) (by omega)
          · skip
            refine aw_aload_n d_MO_token_48 rfl 0 rfl ?_
            refine aw_iconst (v := nI 3) d_MO_token_49 (by decide) ?_
            refine aw_callV (K' := k_MO_refuse) (As := [.int (nI (3))]) (rest := []) (b := 57) d_MO_token_50 rfl rfl rfl cs_MO_58 rfl (Nat.le_of_ble_eq_true rfl) (Nat.le_of_ble_eq_true rfl) (by decide) (by decide) (d' := 0) (w' := 0) (by decide) (by decide) ?_
            show AW _ _ _ _ _ _ _ [(0, .ref (57)), (1, .int (nI (3)))] _ _ _ _ _
            refine aw_aload_n d_MO_refuse_0 rfl 0 rfl ?_
            refine aw_iload_n d_MO_refuse_1 rfl 1 rfl ?_
            refine aw_putI (ic := 57) (ci := 6) (k := 0) d_MO_refuse_2 rfl rfl (by decide) rfl rfl rfl mw_775 ?_
            refine aw_iconst (v := nI 0) d_MO_refuse_5 (by decide) ?_
            refine aw_iret d_MO_refuse_6 rfl (by decide) (by decide) (ab_go1 ?_)
            refine aw_iret d_MO_token_53 rfl (by decide) (by decide) ?_
            have h8 := of_decide_eq_true c4
            first | exact hF (by omega) | exact hG (by omega) (by omega) (by omega) (by omega) | exact hO (by omega) (by omega) (by omega)
      · skip
        refine aw_aload_n d_MO_token_31 rfl 0 rfl ?_
        refine aw_iconst (v := nI 2) d_MO_token_32 (by decide) ?_
        refine aw_callV (K' := k_MO_refuse) (As := [.int (nI (2))]) (rest := []) (b := 57) d_MO_token_33 rfl rfl rfl cs_MO_58 rfl (Nat.le_of_ble_eq_true rfl) (Nat.le_of_ble_eq_true rfl) (by decide) (by decide) (d' := 0) (w' := 0) (by decide) (by decide) ?_
        show AW _ _ _ _ _ _ _ [(0, .ref (57)), (1, .int (nI (2)))] _ _ _ _ _
        refine aw_aload_n d_MO_refuse_0 rfl 0 rfl ?_
        refine aw_iload_n d_MO_refuse_1 rfl 1 rfl ?_
        refine aw_putI (ic := 57) (ci := 6) (k := 0) d_MO_refuse_2 rfl rfl (by decide) rfl rfl rfl mw_775 ?_
        refine aw_iconst (v := nI 0) d_MO_refuse_5 (by decide) ?_
        refine aw_iret d_MO_refuse_6 rfl (by decide) (by decide) (ab_go1 ?_)
        refine aw_iret d_MO_token_36 rfl (by decide) (by decide) ?_
        first | exact hF (by omega) | exact hG (by omega) (by omega) (by omega) (by omega) | exact hO (by omega) (by omega) (by omega)
  · skip
    exact absurd c1 (by decide)
