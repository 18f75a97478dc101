/-! the FACE of the reference (rows laid by gen/m12.py) -/
def thrM (c : Nat) (M : ab_M) : ab_M := ab_sI M 57 0 (nI c)
def docR (D : Dg) (t : Nat) (M : ab_M) : ab_M := ab_sI (ab_sI (ab_sI (ab_sI M 57 0 (nI 0)) 60 (dn D) (nI t)) 59 (dn D) (nI 0)) 57 4 (nI (dn D + 1))
def wordR (D : Dg) (w : Nat) (M : ab_M) : ab_M := ab_sI (ab_sI (ab_sI M 57 0 (nI 0)) 58 (24 * (dn D - 1) + dl D (dn D - 1)) (nI w)) 59 (dn D - 1) (nI (dl D (dn D - 1) + 1))
def smR (h : Nat) (mu : UInt64) (M : ab_M) : ab_M := ab_sD (ab_sI (ab_sI M 57 0 (nI 0)) 57 9 (nI h)) 57 10 mu
def clrR (M : ab_M) : ab_M := ab_sI (ab_sI M 57 0 (nI 0)) 57 8 (nI 0)
theorem thr_fr (c : Nat) (M : ab_M) : frB M (thrM c M) := ⟨fun a i h1 h2 => sI_ne (by omega), fun _ _ _ _ => rfl, rfl⟩

set_option maxRecDepth 4000 in
theorem R_document_bad {l : Launch} {M : ab_M} {Q : ab_O → ab_M → Prop} {x : Int32} (hb : x.toInt < 0 ∨ 24 < x.toInt) (hQ : Q (.inl (some (.int (nI 0)))) (thrM 1 M)) : AW sys l ab_Zt k_MO_document 1 22 0 [(0, .ref (57)), (1, .int (x))] [] M 0 0 Q := by
  refine aw_iload_n d_MO_document_0 rfl 1 rfl ?_
  refine aw_iconst (v := nI 0) d_MO_document_1 (by decide) ?_
  refine aw_bipush (v := nI 24) d_MO_document_2 (by decide) ?_
  refine aw_callS (K' := k_MO_in) (As := [.int (x), .int (nI (0)), .int (nI (24))]) (rest := []) d_MO_document_4 rfl cs_MO_54 rfl (Nat.le_of_ble_eq_true rfl) (Nat.le_of_ble_eq_true rfl) (by decide) (by decide) (d' := 0) (w' := 0) (by decide) (by decide) ?_
  show AW _ _ _ _ _ _ _ [(0, .int (x)), (1, .int (nI (0))), (2, .int (nI (24)))] _ _ _ _ _
  refine aw_iload_n d_MO_in_0 rfl 0 rfl ?_
  refine aw_iload_n d_MO_in_1 rfl 1 rfl ?_
  refine at_lt rfl (nI_toInt (by omega)) (tgt := 14) d_MO_in_2 (by decide) (fun c1 => ?_) (fun c1 => ?_)
  · skip
    refine aw_iconst (v := nI 0) d_MO_in_14 (by decide) ?_
    refine aw_zret (Or.inl rfl) d_MO_in_15 rfl (by decide) (by decide) (ab_go1 ?_)
    refine aw_if_neN (tgt := 16) d_MO_document_7 (by decide) (by omega) (fun c2 => ?_) (fun c2 => ?_)
    · skip
      exact absurd c2 (by decide)
    · skip
      refine aw_aload_n d_MO_document_10 rfl 0 rfl ?_
      refine aw_iconst (v := nI 1) d_MO_document_11 (by decide) ?_
      refine aw_callV (K' := k_MO_refuse) (As := [.int (nI (1))]) (rest := []) (b := 57) d_MO_document_12 rfl rfl rfl cs_MO_58 rfl (Nat.le_of_ble_eq_true rfl) (Nat.le_of_ble_eq_true rfl) (by decide) (by decide) (d' := 0) (w' := 0) (by decide) (by decide) ?_
      show AW _ _ _ _ _ _ _ [(0, .ref (57)), (1, .int (nI (1)))] _ _ _ _ _
      refine aw_aload_n d_MO_refuse_0 rfl 0 rfl ?_
      refine aw_iload_n d_MO_refuse_1 rfl 1 rfl ?_
      refine aw_putI (ic := 57) (ci := 6) (k := 0) d_MO_refuse_2 rfl rfl (by decide) rfl rfl rfl mw_775 ?_
      refine aw_iconst (v := nI 0) d_MO_refuse_5 (by decide) ?_
      refine aw_iret d_MO_refuse_6 rfl (by decide) (by decide) (ab_go1 ?_)
      refine aw_iret d_MO_document_15 rfl (by decide) (by decide) ?_
      first | exact hQ | (exfalso; omega)
  · skip
    refine aw_iload_n d_MO_in_5 rfl 0 rfl ?_
    refine aw_iload_n d_MO_in_6 rfl 2 rfl ?_
    refine at_gt rfl (nI_toInt (by omega)) (tgt := 14) d_MO_in_7 (by decide) (fun c3 => ?_) (fun c3 => ?_)
    · skip
      refine aw_iconst (v := nI 0) d_MO_in_14 (by decide) ?_
      refine aw_zret (Or.inl rfl) d_MO_in_15 rfl (by decide) (by decide) (ab_go1 ?_)
      refine aw_if_neN (tgt := 16) d_MO_document_7 (by decide) (by omega) (fun c4 => ?_) (fun c4 => ?_)
      · skip
        exact absurd c4 (by decide)
      · skip
        refine aw_aload_n d_MO_document_10 rfl 0 rfl ?_
        refine aw_iconst (v := nI 1) d_MO_document_11 (by decide) ?_
        refine aw_callV (K' := k_MO_refuse) (As := [.int (nI (1))]) (rest := []) (b := 57) d_MO_document_12 rfl rfl rfl cs_MO_58 rfl (Nat.le_of_ble_eq_true rfl) (Nat.le_of_ble_eq_true rfl) (by decide) (by decide) (d' := 0) (w' := 0) (by decide) (by decide) ?_
        show AW _ _ _ _ _ _ _ [(0, .ref (57)), (1, .int (nI (1)))] _ _ _ _ _
        refine aw_aload_n d_MO_refuse_0 rfl 0 rfl ?_
        refine aw_iload_n d_MO_refuse_1 rfl 1 rfl ?_
        refine aw_putI (ic := 57) (ci := 6) (k := 0) d_MO_refuse_2 rfl rfl (by decide) rfl rfl rfl mw_775 ?_
        refine aw_iconst (v := nI 0) d_MO_refuse_5 (by decide) ?_
        refine aw_iret d_MO_refuse_6 rfl (by decide) (by decide) (ab_go1 ?_)
        refine aw_iret d_MO_document_15 rfl (by decide) (by decide) ?_
        first | exact hQ | (exfalso; omega)
    · skip
      refine aw_iconst (v := nI 1) d_MO_in_10 (by decide) ?_
      refine aw_goto (tgt := 15) d_MO_in_11 (by decide) ?_
      refine aw_zret (Or.inr rfl) d_MO_in_15 rfl (by decide) (by decide) (ab_go1 ?_)
      refine aw_if_neN (tgt := 16) d_MO_document_7 (by decide) (by omega) (fun c5 => ?_) (fun c5 => ?_)
      · skip
        exfalso; omega
      · skip
        exact absurd c5 (by decide)
set_option maxRecDepth 4000 in
theorem R_document {l : Launch} {M : ab_M} {Q : ab_O → ab_M → Prop} {D : Dg} (wd : wD D) (dr : iDR D M) {t : Nat} (ht : t ≤ 24) (hF : dn D = 12 → Q (.inl (some (.int (nI 0)))) (thrM 2 M)) (hO : dn D < 12 → Q (.inl (some (.int (nI (dn D))))) (docR D t M)) : AW sys l ab_Zt k_MO_document 1 22 0 [(0, .ref (57)), (1, .int (nI (t)))] [] M 0 0 Q := by
  have h12 := wd.1
  refine aw_iload_n d_MO_document_0 rfl 1 rfl ?_
  refine aw_iconst (v := nI 0) d_MO_document_1 (by decide) ?_
  refine aw_bipush (v := nI 24) d_MO_document_2 (by decide) ?_
  refine aw_callS (K' := k_MO_in) (As := [.int (nI (t)), .int (nI (0)), .int (nI (24))]) (rest := []) d_MO_document_4 rfl cs_MO_54 rfl (Nat.le_of_ble_eq_true rfl) (Nat.le_of_ble_eq_true rfl) (by decide) (by decide) (d' := 0) (w' := 0) (by decide) (by decide) ?_
  show AW _ _ _ _ _ _ _ [(0, .int (nI (t))), (1, .int (nI (0))), (2, .int (nI (24)))] _ _ _ _ _
  refine aw_iload_n d_MO_in_0 rfl 0 rfl ?_
  refine aw_iload_n d_MO_in_1 rfl 1 rfl ?_
  refine aw_icmp_ltN (tgt := 14) d_MO_in_2 (by decide) (by omega) (by omega) (fun c1 => ?_) (fun c1 => ?_)
  · skip
    refine aw_iconst (v := nI 0) d_MO_in_14 (by decide) ?_
    refine aw_zret (Or.inl rfl) d_MO_in_15 rfl (by decide) (by decide) (ab_go1 ?_)
    refine aw_if_neN (tgt := 16) d_MO_document_7 (by decide) (by omega) (fun c2 => ?_) (fun c2 => ?_)
    · skip
      exact absurd c2 (by decide)
    · skip
      exfalso; omega
  · skip
    refine aw_iload_n d_MO_in_5 rfl 0 rfl ?_
    refine aw_iload_n d_MO_in_6 rfl 2 rfl ?_
    refine aw_icmp_gtN (tgt := 14) d_MO_in_7 (by decide) (by omega) (by omega) (fun c3 => ?_) (fun c3 => ?_)
    · skip
      refine aw_iconst (v := nI 0) d_MO_in_14 (by decide) ?_
      refine aw_zret (Or.inl rfl) d_MO_in_15 rfl (by decide) (by decide) (ab_go1 ?_)
      refine aw_if_neN (tgt := 16) d_MO_document_7 (by decide) (by omega) (fun c4 => ?_) (fun c4 => ?_)
      · skip
        exact absurd c4 (by decide)
      · skip
        exfalso; omega
    · skip
      refine aw_iconst (v := nI 1) d_MO_in_10 (by decide) ?_
      refine aw_goto (tgt := 15) d_MO_in_11 (by decide) ?_
      refine aw_zret (Or.inr rfl) d_MO_in_15 rfl (by decide) (by decide) (ab_go1 ?_)
      refine aw_if_neN (tgt := 16) d_MO_document_7 (by decide) (by omega) (fun c5 => ?_) (fun c5 => ?_)
      · skip
        refine aw_aload_n d_MO_document_16 rfl 0 rfl ?_
        refine aw_get (ic := 57) (ci := 6) (k := 4) d_MO_document_17 rfl rfl (by decide) rfl mw_779 rfl ?_
        refine aw_eqi (nI (dn D)) dr.1 ?_
        refine aw_bipush (v := nI 12) d_MO_document_20 (by decide) ?_
        refine aw_icmp_neN (tgt := 31) d_MO_document_22 (by decide) (by omega) (by omega) (fun c6 => ?_) (fun c6 => ?_)
        · skip
          refine aw_aload_n d_MO_document_31 rfl 0 rfl ?_
          refine aw_iconst (v := nI 0) d_MO_document_32 (by decide) ?_
          refine aw_putI (ic := 57) (ci := 6) (k := 0) d_MO_document_33 rfl rfl (by decide) rfl rfl rfl mw_775 ?_
          refine aw_aload_n d_MO_document_36 rfl 0 rfl ?_
          refine aw_get (ic := 57) (ci := 6) (k := 3) (v := .ref 60) d_MO_document_37 rfl rfl (by decide) rfl mw_778 rfl ?_
          refine aw_aload_n d_MO_document_40 rfl 0 rfl ?_
          refine aw_get (ic := 57) (ci := 6) (k := 4) d_MO_document_41 rfl rfl (by decide) rfl mw_779 rfl ?_
          refine aw_eqi (nI (dn D)) (by repeat (first | rw [sI_ne (by omega)] | rw [sD_1]); exact dr.1) ?_
          refine aw_iload_n d_MO_document_44 rfl 1 rfl ?_
          refine aw_iastN d_MO_document_45 rfl (by decide) (by omega) ?_
          refine aw_aload_n d_MO_document_46 rfl 0 rfl ?_
          refine aw_get (ic := 57) (ci := 6) (k := 2) (v := .ref 59) d_MO_document_47 rfl rfl (by decide) rfl mw_777 rfl ?_
          refine aw_aload_n d_MO_document_50 rfl 0 rfl ?_
          refine aw_get (ic := 57) (ci := 6) (k := 4) d_MO_document_51 rfl rfl (by decide) rfl mw_779 rfl ?_
          refine aw_eqi (nI (dn D)) (by repeat (first | rw [sI_ne (by omega)] | rw [sD_1]); exact dr.1) ?_
          refine aw_iconst (v := nI 0) d_MO_document_54 (by decide) ?_
          refine aw_iastN d_MO_document_55 rfl (by decide) (by omega) ?_
          refine aw_aload_n d_MO_document_56 rfl 0 rfl ?_
          refine aw_dup d_MO_document_57 rfl ?_
          refine aw_get (ic := 57) (ci := 6) (k := 4) d_MO_document_58 rfl rfl (by decide) rfl mw_779 rfl ?_
          refine aw_eqi (nI (dn D)) (by repeat (first | rw [sI_ne (by omega)] | rw [sD_1]); exact dr.1) ?_
          refine aw_iconst (v := nI 1) d_MO_document_61 (by decide) ?_
          refine aw_iaddN d_MO_document_62 ?_
          refine aw_putI (ic := 57) (ci := 6) (k := 4) d_MO_document_63 rfl rfl (by decide) rfl rfl rfl mw_779 ?_
          refine aw_aload_n d_MO_document_66 rfl 0 rfl ?_
          refine aw_get (ic := 57) (ci := 6) (k := 4) d_MO_document_67 rfl rfl (by decide) rfl mw_779 rfl ?_
          refine aw_eqi (nI (dn D + 1)) (sI_hit _ _ _ _) ?_
          refine aw_iconst (v := nI 1) d_MO_document_70 (by decide) ?_
          refine aw_isubN d_MO_document_71 (by omega) ?_
          refine aw_iret d_MO_document_72 rfl (by decide) (by decide) ?_
          first | exact hF (by omega) | (refine q_n (by omega) (hO (by omega)))
        · skip
          refine aw_aload_n d_MO_document_25 rfl 0 rfl ?_
          refine aw_iconst (v := nI 2) d_MO_document_26 (by decide) ?_
          refine aw_callV (K' := k_MO_refuse) (As := [.int (nI (2))]) (rest := []) (b := 57) d_MO_document_27 rfl rfl rfl cs_MO_58 rfl (Nat.le_of_ble_eq_true rfl) (Nat.le_of_ble_eq_true rfl) (by decide) (by decide) (d' := 0) (w' := 0) (by decide) (by decide) ?_
          show AW _ _ _ _ _ _ _ [(0, .ref (57)), (1, .int (nI (2)))] _ _ _ _ _
          refine aw_aload_n d_MO_refuse_0 rfl 0 rfl ?_
          refine aw_iload_n d_MO_refuse_1 rfl 1 rfl ?_
          refine aw_putI (ic := 57) (ci := 6) (k := 0) d_MO_refuse_2 rfl rfl (by decide) rfl rfl rfl mw_775 ?_
          refine aw_iconst (v := nI 0) d_MO_refuse_5 (by decide) ?_
          refine aw_iret d_MO_refuse_6 rfl (by decide) (by decide) (ab_go1 ?_)
          refine aw_iret d_MO_document_30 rfl (by decide) (by decide) ?_
          first | exact hF (by omega) | (refine q_n (by omega) (hO (by omega)))
      · skip
        exact absurd c5 (by decide)
set_option maxRecDepth 4000 in
theorem R_word_bad {l : Launch} {M : ab_M} {Q : ab_O → ab_M → Prop} {x : Int32} (hb : x.toInt < 0 ∨ 15 < x.toInt) (hQ : Q (.inl (some (.int (nI 0)))) (thrM 1 M)) : AW sys l ab_Zt k_MO_word 1 22 0 [(0, .ref (57)), (1, .int (x))] [] M 0 0 Q := by
  refine aw_iload_n d_MO_word_0 rfl 1 rfl ?_
  refine aw_iconst (v := nI 0) d_MO_word_1 (by decide) ?_
  refine aw_bipush (v := nI 15) d_MO_word_2 (by decide) ?_
  refine aw_callS (K' := k_MO_in) (As := [.int (x), .int (nI (0)), .int (nI (15))]) (rest := []) d_MO_word_4 rfl cs_MO_54 rfl (Nat.le_of_ble_eq_true rfl) (Nat.le_of_ble_eq_true rfl) (by decide) (by decide) (d' := 0) (w' := 0) (by decide) (by decide) ?_
  show AW _ _ _ _ _ _ _ [(0, .int (x)), (1, .int (nI (0))), (2, .int (nI (15)))] _ _ _ _ _
  refine aw_iload_n d_MO_in_0 rfl 0 rfl ?_
  refine aw_iload_n d_MO_in_1 rfl 1 rfl ?_
  refine at_lt rfl (nI_toInt (by omega)) (tgt := 14) d_MO_in_2 (by decide) (fun c1 => ?_) (fun c1 => ?_)
  · skip
    refine aw_iconst (v := nI 0) d_MO_in_14 (by decide) ?_
    refine aw_zret (Or.inl rfl) d_MO_in_15 rfl (by decide) (by decide) (ab_go1 ?_)
    refine aw_if_neN (tgt := 16) d_MO_word_7 (by decide) (by omega) (fun c2 => ?_) (fun c2 => ?_)
    · skip
      exact absurd c2 (by decide)
    · skip
      refine aw_aload_n d_MO_word_10 rfl 0 rfl ?_
      refine aw_iconst (v := nI 1) d_MO_word_11 (by decide) ?_
      refine aw_callV (K' := k_MO_refuse) (As := [.int (nI (1))]) (rest := []) (b := 57) d_MO_word_12 rfl rfl rfl cs_MO_58 rfl (Nat.le_of_ble_eq_true rfl) (Nat.le_of_ble_eq_true rfl) (by decide) (by decide) (d' := 0) (w' := 0) (by decide) (by decide) ?_
      show AW _ _ _ _ _ _ _ [(0, .ref (57)), (1, .int (nI (1)))] _ _ _ _ _
      refine aw_aload_n d_MO_refuse_0 rfl 0 rfl ?_
      refine aw_iload_n d_MO_refuse_1 rfl 1 rfl ?_
      refine aw_putI (ic := 57) (ci := 6) (k := 0) d_MO_refuse_2 rfl rfl (by decide) rfl rfl rfl mw_775 ?_
      refine aw_iconst (v := nI 0) d_MO_refuse_5 (by decide) ?_
      refine aw_iret d_MO_refuse_6 rfl (by decide) (by decide) (ab_go1 ?_)
      refine aw_iret d_MO_word_15 rfl (by decide) (by decide) ?_
      first | exact hQ | (exfalso; omega)
  · skip
    refine aw_iload_n d_MO_in_5 rfl 0 rfl ?_
    refine aw_iload_n d_MO_in_6 rfl 2 rfl ?_
    refine at_gt rfl (nI_toInt (by omega)) (tgt := 14) d_MO_in_7 (by decide) (fun c3 => ?_) (fun c3 => ?_)
    · skip
      refine aw_iconst (v := nI 0) d_MO_in_14 (by decide) ?_
      refine aw_zret (Or.inl rfl) d_MO_in_15 rfl (by decide) (by decide) (ab_go1 ?_)
      refine aw_if_neN (tgt := 16) d_MO_word_7 (by decide) (by omega) (fun c4 => ?_) (fun c4 => ?_)
      · skip
        exact absurd c4 (by decide)
      · skip
        refine aw_aload_n d_MO_word_10 rfl 0 rfl ?_
        refine aw_iconst (v := nI 1) d_MO_word_11 (by decide) ?_
        refine aw_callV (K' := k_MO_refuse) (As := [.int (nI (1))]) (rest := []) (b := 57) d_MO_word_12 rfl rfl rfl cs_MO_58 rfl (Nat.le_of_ble_eq_true rfl) (Nat.le_of_ble_eq_true rfl) (by decide) (by decide) (d' := 0) (w' := 0) (by decide) (by decide) ?_
        show AW _ _ _ _ _ _ _ [(0, .ref (57)), (1, .int (nI (1)))] _ _ _ _ _
        refine aw_aload_n d_MO_refuse_0 rfl 0 rfl ?_
        refine aw_iload_n d_MO_refuse_1 rfl 1 rfl ?_
        refine aw_putI (ic := 57) (ci := 6) (k := 0) d_MO_refuse_2 rfl rfl (by decide) rfl rfl rfl mw_775 ?_
        refine aw_iconst (v := nI 0) d_MO_refuse_5 (by decide) ?_
        refine aw_iret d_MO_refuse_6 rfl (by decide) (by decide) (ab_go1 ?_)
        refine aw_iret d_MO_word_15 rfl (by decide) (by decide) ?_
        first | exact hQ | (exfalso; omega)
    · skip
      refine aw_iconst (v := nI 1) d_MO_in_10 (by decide) ?_
      refine aw_goto (tgt := 15) d_MO_in_11 (by decide) ?_
      refine aw_zret (Or.inr rfl) d_MO_in_15 rfl (by decide) (by decide) (ab_go1 ?_)
      refine aw_if_neN (tgt := 16) d_MO_word_7 (by decide) (by omega) (fun c5 => ?_) (fun c5 => ?_)
      · skip
        exfalso; omega
      · skip
        exact absurd c5 (by decide)
set_option maxRecDepth 4000 in
theorem R_word {l : Launch} {M : ab_M} {Q : ab_O → ab_M → Prop} {D : Dg} (wd : wD D) (dr : iDR D M) {w : Nat} (hw : w < 16) (hF : ¬ (0 < dn D ∧ dl D (dn D - 1) < 24) → Q (.inl (some (.int (nI 0)))) (thrM 2 M)) (hO : 0 < dn D → dl D (dn D - 1) < 24 → Q (.inl (some (.int (nI (dl D (dn D - 1) + 1))))) (wordR D w M)) : AW sys l ab_Zt k_MO_word 1 22 0 [(0, .ref (57)), (1, .int (nI (w)))] [] M 0 0 Q := by
  have h12 := wd.1
  have hl2 := wd.2.1 (dn D - 1)
  refine aw_iload_n d_MO_word_0 rfl 1 rfl ?_
  refine aw_iconst (v := nI 0) d_MO_word_1 (by decide) ?_
  refine aw_bipush (v := nI 15) d_MO_word_2 (by decide) ?_
  refine aw_callS (K' := k_MO_in) (As := [.int (nI (w)), .int (nI (0)), .int (nI (15))]) (rest := []) d_MO_word_4 rfl cs_MO_54 rfl (Nat.le_of_ble_eq_true rfl) (Nat.le_of_ble_eq_true rfl) (by decide) (by decide) (d' := 0) (w' := 0) (by decide) (by decide) ?_
  show AW _ _ _ _ _ _ _ [(0, .int (nI (w))), (1, .int (nI (0))), (2, .int (nI (15)))] _ _ _ _ _
  refine aw_iload_n d_MO_in_0 rfl 0 rfl ?_
  refine aw_iload_n d_MO_in_1 rfl 1 rfl ?_
  refine aw_icmp_ltN (tgt := 14) d_MO_in_2 (by decide) (by omega) (by omega) (fun c1 => ?_) (fun c1 => ?_)
  · skip
    refine aw_iconst (v := nI 0) d_MO_in_14 (by decide) ?_
    refine aw_zret (Or.inl rfl) d_MO_in_15 rfl (by decide) (by decide) (ab_go1 ?_)
    refine aw_if_neN (tgt := 16) d_MO_word_7 (by decide) (by omega) (fun c2 => ?_) (fun c2 => ?_)
    · skip
      exact absurd c2 (by decide)
    · skip
      exfalso; omega
  · skip
    refine aw_iload_n d_MO_in_5 rfl 0 rfl ?_
    refine aw_iload_n d_MO_in_6 rfl 2 rfl ?_
    refine aw_icmp_gtN (tgt := 14) d_MO_in_7 (by decide) (by omega) (by omega) (fun c3 => ?_) (fun c3 => ?_)
    · skip
      refine aw_iconst (v := nI 0) d_MO_in_14 (by decide) ?_
      refine aw_zret (Or.inl rfl) d_MO_in_15 rfl (by decide) (by decide) (ab_go1 ?_)
      refine aw_if_neN (tgt := 16) d_MO_word_7 (by decide) (by omega) (fun c4 => ?_) (fun c4 => ?_)
      · skip
        exact absurd c4 (by decide)
      · skip
        exfalso; omega
    · skip
      refine aw_iconst (v := nI 1) d_MO_in_10 (by decide) ?_
      refine aw_goto (tgt := 15) d_MO_in_11 (by decide) ?_
      refine aw_zret (Or.inr rfl) d_MO_in_15 rfl (by decide) (by decide) (ab_go1 ?_)
      refine aw_if_neN (tgt := 16) d_MO_word_7 (by decide) (by omega) (fun c5 => ?_) (fun c5 => ?_)
      · skip
        refine aw_aload_n d_MO_word_16 rfl 0 rfl ?_
        refine aw_get (ic := 57) (ci := 6) (k := 4) d_MO_word_17 rfl rfl (by decide) rfl mw_779 rfl ?_
        refine aw_eqi (nI (dn D)) dr.1 ?_
        refine aw_if_eqN (tgt := 39) d_MO_word_20 (by decide) (by omega) (fun c6 => ?_) (fun c6 => ?_)
        · skip
          refine aw_aload_n d_MO_word_39 rfl 0 rfl ?_
          refine aw_iconst (v := nI 2) d_MO_word_40 (by decide) ?_
          refine aw_callV (K' := k_MO_refuse) (As := [.int (nI (2))]) (rest := []) (b := 57) d_MO_word_41 rfl rfl rfl cs_MO_58 rfl (Nat.le_of_ble_eq_true rfl) (Nat.le_of_ble_eq_true rfl) (by decide) (by decide) (d' := 0) (w' := 0) (by decide) (by decide) ?_
          show AW _ _ _ _ _ _ _ [(0, .ref (57)), (1, .int (nI (2)))] _ _ _ _ _
          refine aw_aload_n d_MO_refuse_0 rfl 0 rfl ?_
          refine aw_iload_n d_MO_refuse_1 rfl 1 rfl ?_
          refine aw_putI (ic := 57) (ci := 6) (k := 0) d_MO_refuse_2 rfl rfl (by decide) rfl rfl rfl mw_775 ?_
          refine aw_iconst (v := nI 0) d_MO_refuse_5 (by decide) ?_
          refine aw_iret d_MO_refuse_6 rfl (by decide) (by decide) (ab_go1 ?_)
          refine aw_iret d_MO_word_44 rfl (by decide) (by decide) ?_
          first | exact hF (by omega) | exact hO (by omega) (by omega)
        · skip
          refine aw_aload_n d_MO_word_23 rfl 0 rfl ?_
          refine aw_get (ic := 57) (ci := 6) (k := 2) (v := .ref 59) d_MO_word_24 rfl rfl (by decide) rfl mw_777 rfl ?_
          refine aw_aload_n d_MO_word_27 rfl 0 rfl ?_
          refine aw_get (ic := 57) (ci := 6) (k := 4) d_MO_word_28 rfl rfl (by decide) rfl mw_779 rfl ?_
          refine aw_eqi (nI (dn D)) dr.1 ?_
          refine aw_iconst (v := nI 1) d_MO_word_31 (by decide) ?_
          refine aw_isubN d_MO_word_32 (by omega) ?_
          refine aw_ialdN d_MO_word_33 rfl (by decide) (by omega) ?_
          refine aw_eqi (nI (dl D (dn D - 1))) (dr.2.1 _ (by omega)) ?_
          refine aw_bipush (v := nI 24) d_MO_word_34 (by decide) ?_
          refine aw_icmp_neN (tgt := 45) d_MO_word_36 (by decide) (by omega) (by omega) (fun c7 => ?_) (fun c7 => ?_)
          · skip
            refine aw_aload_n d_MO_word_45 rfl 0 rfl ?_
            refine aw_iconst (v := nI 0) d_MO_word_46 (by decide) ?_
            refine aw_putI (ic := 57) (ci := 6) (k := 0) d_MO_word_47 rfl rfl (by decide) rfl rfl rfl mw_775 ?_
            refine aw_aload_n d_MO_word_50 rfl 0 rfl ?_
            refine aw_get (ic := 57) (ci := 6) (k := 4) d_MO_word_51 rfl rfl (by decide) rfl mw_779 rfl ?_
            refine aw_eqi (nI (dn D)) (by repeat (first | rw [sI_ne (by omega)] | rw [sD_1]); exact dr.1) ?_
            refine aw_iconst (v := nI 1) d_MO_word_54 (by decide) ?_
            refine aw_isubN d_MO_word_55 (by omega) ?_
            refine aw_istore_n (lv' := [(2, .int (nI (dn D - 1))), (0, .ref (57)), (1, .int (nI (w)))]) d_MO_word_56 rfl (by decide) rfl ?_
            refine aw_aload_n d_MO_word_57 rfl 1 rfl ?_
            refine aw_get (ic := 57) (ci := 6) (k := 1) (v := .ref 58) d_MO_word_58 rfl rfl (by decide) rfl mw_776 rfl ?_
            refine aw_bipush (v := nI 24) d_MO_word_61 (by decide) ?_
            refine aw_iload_n d_MO_word_63 rfl 0 rfl ?_
            refine aw_imulN d_MO_word_64 ?_
            refine aw_aload_n d_MO_word_65 rfl 1 rfl ?_
            refine aw_get (ic := 57) (ci := 6) (k := 2) (v := .ref 59) d_MO_word_66 rfl rfl (by decide) rfl mw_777 rfl ?_
            refine aw_iload_n d_MO_word_69 rfl 0 rfl ?_
            refine aw_ialdN d_MO_word_70 rfl (by decide) (by omega) ?_
            refine aw_eqi (nI (dl D (dn D - 1))) (by repeat (first | rw [sI_ne (by omega)] | rw [sD_1]); exact (dr.2.1 _ (by omega))) ?_
            refine aw_iaddN d_MO_word_71 ?_
            refine aw_iload_n d_MO_word_72 rfl 2 rfl ?_
            refine aw_iastN d_MO_word_73 rfl (by decide) (by omega) ?_
            refine aw_aload_n d_MO_word_74 rfl 1 rfl ?_
            refine aw_get (ic := 57) (ci := 6) (k := 2) (v := .ref 59) d_MO_word_75 rfl rfl (by decide) rfl mw_777 rfl ?_
            refine aw_iload_n d_MO_word_78 rfl 0 rfl ?_
            refine aw_dup2_11 d_MO_word_79 rfl rfl ?_
            refine aw_ialdN d_MO_word_80 rfl (by decide) (by omega) ?_
            refine aw_eqi (nI (dl D (dn D - 1))) (by repeat (first | rw [sI_ne (by omega)] | rw [sD_1]); exact (dr.2.1 _ (by omega))) ?_
            refine aw_iconst (v := nI 1) d_MO_word_81 (by decide) ?_
            refine aw_iaddN d_MO_word_82 ?_
            refine aw_iastN d_MO_word_83 rfl (by decide) (by omega) ?_
            refine aw_aload_n d_MO_word_84 rfl 1 rfl ?_
            refine aw_get (ic := 57) (ci := 6) (k := 2) (v := .ref 59) d_MO_word_85 rfl rfl (by decide) rfl mw_777 rfl ?_
            refine aw_iload_n d_MO_word_88 rfl 0 rfl ?_
            refine aw_ialdN d_MO_word_89 rfl (by decide) (by omega) ?_
            refine aw_eqi (nI (dl D (dn D - 1) + 1)) (sI_hit _ _ _ _) ?_
            refine aw_iret d_MO_word_90 rfl (by decide) (by decide) ?_
            first | exact hF (by omega) | exact hO (by omega) (by omega)
          · skip
            refine aw_aload_n d_MO_word_39 rfl 0 rfl ?_
            refine aw_iconst (v := nI 2) d_MO_word_40 (by decide) ?_
            refine aw_callV (K' := k_MO_refuse) (As := [.int (nI (2))]) (rest := []) (b := 57) d_MO_word_41 rfl rfl rfl cs_MO_58 rfl (Nat.le_of_ble_eq_true rfl) (Nat.le_of_ble_eq_true rfl) (by decide) (by decide) (d' := 0) (w' := 0) (by decide) (by decide) ?_
            show AW _ _ _ _ _ _ _ [(0, .ref (57)), (1, .int (nI (2)))] _ _ _ _ _
            refine aw_aload_n d_MO_refuse_0 rfl 0 rfl ?_
            refine aw_iload_n d_MO_refuse_1 rfl 1 rfl ?_
            refine aw_putI (ic := 57) (ci := 6) (k := 0) d_MO_refuse_2 rfl rfl (by decide) rfl rfl rfl mw_775 ?_
            refine aw_iconst (v := nI 0) d_MO_refuse_5 (by decide) ?_
            refine aw_iret d_MO_refuse_6 rfl (by decide) (by decide) (ab_go1 ?_)
            refine aw_iret d_MO_word_44 rfl (by decide) (by decide) ?_
            first | exact hF (by omega) | exact hO (by omega) (by omega)
      · skip
        exact absurd c5 (by decide)
set_option maxRecDepth 4000 in
theorem R_smooth_bad {l : Launch} {M : ab_M} {Q : ab_O → ab_M → Prop} {x : Int32} {mu : UInt64} (hb : x.toInt ≠ 0 ∧ x.toInt ≠ 1) (hQ : Q (.inl (some (.int (nI 0)))) (thrM 1 M)) : AW sys l ab_Zt k_MO_smooth 1 22 0 [(0, .ref (57)), (1, .int (x)), (2, .double (mu))] [] M 0 0 Q := by
  refine aw_iload_n d_MO_smooth_0 rfl 1 rfl ?_
  refine aw_iconst (v := nI 0) d_MO_smooth_1 (by decide) ?_
  refine aw_iconst (v := nI 1) d_MO_smooth_2 (by decide) ?_
  refine aw_callS (K' := k_MO_in) (As := [.int (x), .int (nI (0)), .int (nI (1))]) (rest := []) d_MO_smooth_3 rfl cs_MO_54 rfl (Nat.le_of_ble_eq_true rfl) (Nat.le_of_ble_eq_true rfl) (by decide) (by decide) (d' := 0) (w' := 0) (by decide) (by decide) ?_
  show AW _ _ _ _ _ _ _ [(0, .int (x)), (1, .int (nI (0))), (2, .int (nI (1)))] _ _ _ _ _
  refine aw_iload_n d_MO_in_0 rfl 0 rfl ?_
  refine aw_iload_n d_MO_in_1 rfl 1 rfl ?_
  refine at_lt rfl (nI_toInt (by omega)) (tgt := 14) d_MO_in_2 (by decide) (fun c1 => ?_) (fun c1 => ?_)
  · skip
    refine aw_iconst (v := nI 0) d_MO_in_14 (by decide) ?_
    refine aw_zret (Or.inl rfl) d_MO_in_15 rfl (by decide) (by decide) (ab_go1 ?_)
    refine aw_if_eqN (tgt := 31) d_MO_smooth_6 (by decide) (by omega) (fun c2 => ?_) (fun c2 => ?_)
    · skip
      refine aw_aload_n d_MO_smooth_31 rfl 0 rfl ?_
      refine aw_iconst (v := nI 1) d_MO_smooth_32 (by decide) ?_
      refine aw_callV (K' := k_MO_refuse) (As := [.int (nI (1))]) (rest := []) (b := 57) d_MO_smooth_33 rfl rfl rfl cs_MO_58 rfl (Nat.le_of_ble_eq_true rfl) (Nat.le_of_ble_eq_true rfl) (by decide) (by decide) (d' := 0) (w' := 0) (by decide) (by decide) ?_
      show AW _ _ _ _ _ _ _ [(0, .ref (57)), (1, .int (nI (1)))] _ _ _ _ _
      refine aw_aload_n d_MO_refuse_0 rfl 0 rfl ?_
      refine aw_iload_n d_MO_refuse_1 rfl 1 rfl ?_
      refine aw_putI (ic := 57) (ci := 6) (k := 0) d_MO_refuse_2 rfl rfl (by decide) rfl rfl rfl mw_775 ?_
      refine aw_iconst (v := nI 0) d_MO_refuse_5 (by decide) ?_
      refine aw_iret d_MO_refuse_6 rfl (by decide) (by decide) (ab_go1 ?_)
      refine aw_iret d_MO_smooth_36 rfl (by decide) (by decide) ?_
      first | exact hQ | (exfalso; omega)
    · skip
      exact absurd c2 (by decide)
  · skip
    refine aw_iload_n d_MO_in_5 rfl 0 rfl ?_
    refine aw_iload_n d_MO_in_6 rfl 2 rfl ?_
    refine at_gt rfl (nI_toInt (by omega)) (tgt := 14) d_MO_in_7 (by decide) (fun c3 => ?_) (fun c3 => ?_)
    · skip
      refine aw_iconst (v := nI 0) d_MO_in_14 (by decide) ?_
      refine aw_zret (Or.inl rfl) d_MO_in_15 rfl (by decide) (by decide) (ab_go1 ?_)
      refine aw_if_eqN (tgt := 31) d_MO_smooth_6 (by decide) (by omega) (fun c4 => ?_) (fun c4 => ?_)
      · skip
        refine aw_aload_n d_MO_smooth_31 rfl 0 rfl ?_
        refine aw_iconst (v := nI 1) d_MO_smooth_32 (by decide) ?_
        refine aw_callV (K' := k_MO_refuse) (As := [.int (nI (1))]) (rest := []) (b := 57) d_MO_smooth_33 rfl rfl rfl cs_MO_58 rfl (Nat.le_of_ble_eq_true rfl) (Nat.le_of_ble_eq_true rfl) (by decide) (by decide) (d' := 0) (w' := 0) (by decide) (by decide) ?_
        show AW _ _ _ _ _ _ _ [(0, .ref (57)), (1, .int (nI (1)))] _ _ _ _ _
        refine aw_aload_n d_MO_refuse_0 rfl 0 rfl ?_
        refine aw_iload_n d_MO_refuse_1 rfl 1 rfl ?_
        refine aw_putI (ic := 57) (ci := 6) (k := 0) d_MO_refuse_2 rfl rfl (by decide) rfl rfl rfl mw_775 ?_
        refine aw_iconst (v := nI 0) d_MO_refuse_5 (by decide) ?_
        refine aw_iret d_MO_refuse_6 rfl (by decide) (by decide) (ab_go1 ?_)
        refine aw_iret d_MO_smooth_36 rfl (by decide) (by decide) ?_
        first | exact hQ | (exfalso; omega)
      · skip
        exact absurd c4 (by decide)
    · skip
      refine aw_iconst (v := nI 1) d_MO_in_10 (by decide) ?_
      refine aw_goto (tgt := 15) d_MO_in_11 (by decide) ?_
      refine aw_zret (Or.inr rfl) d_MO_in_15 rfl (by decide) (by decide) (ab_go1 ?_)
      refine aw_if_eqN (tgt := 31) d_MO_smooth_6 (by decide) (by omega) (fun c5 => ?_) (fun c5 => ?_)
      · skip
        exact absurd c5 (by decide)
      · skip
        exfalso; omega
set_option maxRecDepth 4000 in
theorem R_smooth0 {l : Launch} {M : ab_M} {Q : ab_O → ab_M → Prop} {S : Sg} (sr : iSR S M) (hs : S.1 ≤ 1) {mu : UInt64} (fm : fF mu) (hF : ¬ (0 < fz mu ∧ fz mu ≤ fz 4636737291354636288) → Q (.inl (some (.int (nI 0)))) (thrM 1 M)) (hO : 0 < fz mu → fz mu ≤ fz 4636737291354636288 → Q (.inl (some (.int (nI S.1)))) (smR 0 mu M)) : AW sys l ab_Zt k_MO_smooth 1 22 0 [(0, .ref (57)), (1, .int (nI (0))), (2, .double (mu))] [] M 0 0 Q := by
  have e100 : fz (FP.i2d (nI 100)) = fz 4636737291354636288 := by rw [fz_n (by omega), fz_100]; rfl
  refine aw_iload_n d_MO_smooth_0 rfl 1 rfl ?_
  refine aw_iconst (v := nI 0) d_MO_smooth_1 (by decide) ?_
  refine aw_iconst (v := nI 1) d_MO_smooth_2 (by decide) ?_
  refine aw_callS (K' := k_MO_in) (As := [.int (nI (0)), .int (nI (0)), .int (nI (1))]) (rest := []) d_MO_smooth_3 rfl cs_MO_54 rfl (Nat.le_of_ble_eq_true rfl) (Nat.le_of_ble_eq_true rfl) (by decide) (by decide) (d' := 0) (w' := 0) (by decide) (by decide) ?_
  show AW _ _ _ _ _ _ _ [(0, .int (nI (0))), (1, .int (nI (0))), (2, .int (nI (1)))] _ _ _ _ _
  refine aw_iload_n d_MO_in_0 rfl 0 rfl ?_
  refine aw_iload_n d_MO_in_1 rfl 1 rfl ?_
  refine aw_icmp_ltN (tgt := 14) d_MO_in_2 (by decide) (by omega) (by omega) (fun c1 => ?_) (fun c1 => ?_)
  · skip
    refine aw_iconst (v := nI 0) d_MO_in_14 (by decide) ?_
    refine aw_zret (Or.inl rfl) d_MO_in_15 rfl (by decide) (by decide) (ab_go1 ?_)
    refine aw_if_eqN (tgt := 31) d_MO_smooth_6 (by decide) (by omega) (fun c2 => ?_) (fun c2 => ?_)
    · skip
      refine aw_aload_n d_MO_smooth_31 rfl 0 rfl ?_
      refine aw_iconst (v := nI 1) d_MO_smooth_32 (by decide) ?_
      refine aw_callV (K' := k_MO_refuse) (As := [.int (nI (1))]) (rest := []) (b := 57) d_MO_smooth_33 rfl rfl rfl cs_MO_58 rfl (Nat.le_of_ble_eq_true rfl) (Nat.le_of_ble_eq_true rfl) (by decide) (by decide) (d' := 0) (w' := 0) (by decide) (by decide) ?_
      show AW _ _ _ _ _ _ _ [(0, .ref (57)), (1, .int (nI (1)))] _ _ _ _ _
      refine aw_aload_n d_MO_refuse_0 rfl 0 rfl ?_
      refine aw_iload_n d_MO_refuse_1 rfl 1 rfl ?_
      refine aw_putI (ic := 57) (ci := 6) (k := 0) d_MO_refuse_2 rfl rfl (by decide) rfl rfl rfl mw_775 ?_
      refine aw_iconst (v := nI 0) d_MO_refuse_5 (by decide) ?_
      refine aw_iret d_MO_refuse_6 rfl (by decide) (by decide) (ab_go1 ?_)
      refine aw_iret d_MO_smooth_36 rfl (by decide) (by decide) ?_
      first | (exfalso; omega) | exact hF (by rw [fz_zero] at *; omega) | exact hO (by rw [fz_zero] at *; omega) (by omega)
    · skip
      exact absurd c2 (by decide)
  · skip
    refine aw_iload_n d_MO_in_5 rfl 0 rfl ?_
    refine aw_iload_n d_MO_in_6 rfl 2 rfl ?_
    refine aw_icmp_gtN (tgt := 14) d_MO_in_7 (by decide) (by omega) (by omega) (fun c3 => ?_) (fun c3 => ?_)
    · skip
      refine aw_iconst (v := nI 0) d_MO_in_14 (by decide) ?_
      refine aw_zret (Or.inl rfl) d_MO_in_15 rfl (by decide) (by decide) (ab_go1 ?_)
      refine aw_if_eqN (tgt := 31) d_MO_smooth_6 (by decide) (by omega) (fun c4 => ?_) (fun c4 => ?_)
      · skip
        refine aw_aload_n d_MO_smooth_31 rfl 0 rfl ?_
        refine aw_iconst (v := nI 1) d_MO_smooth_32 (by decide) ?_
        refine aw_callV (K' := k_MO_refuse) (As := [.int (nI (1))]) (rest := []) (b := 57) d_MO_smooth_33 rfl rfl rfl cs_MO_58 rfl (Nat.le_of_ble_eq_true rfl) (Nat.le_of_ble_eq_true rfl) (by decide) (by decide) (d' := 0) (w' := 0) (by decide) (by decide) ?_
        show AW _ _ _ _ _ _ _ [(0, .ref (57)), (1, .int (nI (1)))] _ _ _ _ _
        refine aw_aload_n d_MO_refuse_0 rfl 0 rfl ?_
        refine aw_iload_n d_MO_refuse_1 rfl 1 rfl ?_
        refine aw_putI (ic := 57) (ci := 6) (k := 0) d_MO_refuse_2 rfl rfl (by decide) rfl rfl rfl mw_775 ?_
        refine aw_iconst (v := nI 0) d_MO_refuse_5 (by decide) ?_
        refine aw_iret d_MO_refuse_6 rfl (by decide) (by decide) (ab_go1 ?_)
        refine aw_iret d_MO_smooth_36 rfl (by decide) (by decide) ?_
        first | (exfalso; omega) | exact hF (by rw [fz_zero] at *; omega) | exact hO (by rw [fz_zero] at *; omega) (by omega)
      · skip
        exact absurd c4 (by decide)
    · skip
      refine aw_iconst (v := nI 1) d_MO_in_10 (by decide) ?_
      refine aw_goto (tgt := 15) d_MO_in_11 (by decide) ?_
      refine aw_zret (Or.inr rfl) d_MO_in_15 rfl (by decide) (by decide) (ab_go1 ?_)
      refine aw_if_eqN (tgt := 31) d_MO_smooth_6 (by decide) (by omega) (fun c5 => ?_) (fun c5 => ?_)
      · skip
        exact absurd c5 (by decide)
      · skip
        refine aw_dload_n d_MO_smooth_9 rfl 2 rfl ?_
        refine aw_dconst0 d_MO_smooth_10 ?_
        refine aw_dcmp d_MO_smooth_11 ?_
        refine ad_le fm.n fF_zero.n d_MO_smooth_12 (tgt := 31) (by decide) (fun c6 => ?_) (fun c6 => ?_)
        · skip
          refine aw_aload_n d_MO_smooth_31 rfl 0 rfl ?_
          refine aw_iconst (v := nI 1) d_MO_smooth_32 (by decide) ?_
          refine aw_callV (K' := k_MO_refuse) (As := [.int (nI (1))]) (rest := []) (b := 57) d_MO_smooth_33 rfl rfl rfl cs_MO_58 rfl (Nat.le_of_ble_eq_true rfl) (Nat.le_of_ble_eq_true rfl) (by decide) (by decide) (d' := 0) (w' := 0) (by decide) (by decide) ?_
          show AW _ _ _ _ _ _ _ [(0, .ref (57)), (1, .int (nI (1)))] _ _ _ _ _
          refine aw_aload_n d_MO_refuse_0 rfl 0 rfl ?_
          refine aw_iload_n d_MO_refuse_1 rfl 1 rfl ?_
          refine aw_putI (ic := 57) (ci := 6) (k := 0) d_MO_refuse_2 rfl rfl (by decide) rfl rfl rfl mw_775 ?_
          refine aw_iconst (v := nI 0) d_MO_refuse_5 (by decide) ?_
          refine aw_iret d_MO_refuse_6 rfl (by decide) (by decide) (ab_go1 ?_)
          refine aw_iret d_MO_smooth_36 rfl (by decide) (by decide) ?_
          first | (exfalso; omega) | exact hF (by rw [fz_zero] at *; omega) | exact hO (by rw [fz_zero] at *; omega) (by omega)
        · skip
          refine aw_dload_n d_MO_smooth_15 rfl 2 rfl ?_
          refine aw_iload_n d_MO_smooth_16 rfl 1 rfl ?_
          refine aw_if_neN (tgt := 25) d_MO_smooth_17 (by decide) (by omega) (fun c7 => ?_) (fun c7 => ?_)
          · skip
            exact absurd c7 (by decide)
          · skip
            refine aw_bipush (v := nI 100) d_MO_smooth_20 (by decide) ?_
            refine aw_goto (tgt := 26) d_MO_smooth_22 (by decide) ?_
            refine aw_i2d d_MO_smooth_26 ?_
            refine aw_dcmp d_MO_smooth_27 ?_
            refine ad_le fm.n (fF_i _).n d_MO_smooth_28 (tgt := 37) (by decide) (fun c8 => ?_) (fun c8 => ?_)
            · skip
              refine aw_aload_n d_MO_smooth_37 rfl 0 rfl ?_
              refine aw_iconst (v := nI 0) d_MO_smooth_38 (by decide) ?_
              refine aw_putI (ic := 57) (ci := 6) (k := 0) d_MO_smooth_39 rfl rfl (by decide) rfl rfl rfl mw_775 ?_
              refine aw_aload_n d_MO_smooth_42 rfl 0 rfl ?_
              refine aw_get (ic := 57) (ci := 6) (k := 9) d_MO_smooth_43 rfl rfl (by decide) rfl mw_784 rfl ?_
              refine aw_eqi (nI (S.1)) (by repeat (first | rw [sI_ne (by omega)] | rw [sD_1]); exact sr.1) ?_
              refine aw_istore (lv' := [(4, .int (nI (S.1))), (0, .ref (57)), (1, .int (nI (0))), (2, .double (mu))]) d_MO_smooth_46 (by decide) rfl ?_
              refine aw_aload_n d_MO_smooth_48 rfl 1 rfl ?_
              refine aw_iload_n d_MO_smooth_49 rfl 2 rfl ?_
              refine aw_putI (ic := 57) (ci := 6) (k := 9) d_MO_smooth_50 rfl rfl (by decide) rfl rfl rfl mw_784 ?_
              refine aw_aload_n d_MO_smooth_53 rfl 1 rfl ?_
              refine aw_dload_n d_MO_smooth_54 rfl 3 rfl ?_
              refine aw_putD (ic := 57) (ci := 6) (k := 10) d_MO_smooth_55 rfl rfl (by decide) rfl rfl rfl mw_785 ?_
              refine aw_iload d_MO_smooth_58 0 rfl ?_
              refine aw_iret d_MO_smooth_60 rfl (by decide) (by decide) ?_
              first | (exfalso; omega) | exact hF (by rw [fz_zero] at *; omega) | exact hO (by rw [fz_zero] at *; omega) (by omega)
            · skip
              refine aw_aload_n d_MO_smooth_31 rfl 0 rfl ?_
              refine aw_iconst (v := nI 1) d_MO_smooth_32 (by decide) ?_
              refine aw_callV (K' := k_MO_refuse) (As := [.int (nI (1))]) (rest := []) (b := 57) d_MO_smooth_33 rfl rfl rfl cs_MO_58 rfl (Nat.le_of_ble_eq_true rfl) (Nat.le_of_ble_eq_true rfl) (by decide) (by decide) (d' := 0) (w' := 0) (by decide) (by decide) ?_
              show AW _ _ _ _ _ _ _ [(0, .ref (57)), (1, .int (nI (1)))] _ _ _ _ _
              refine aw_aload_n d_MO_refuse_0 rfl 0 rfl ?_
              refine aw_iload_n d_MO_refuse_1 rfl 1 rfl ?_
              refine aw_putI (ic := 57) (ci := 6) (k := 0) d_MO_refuse_2 rfl rfl (by decide) rfl rfl rfl mw_775 ?_
              refine aw_iconst (v := nI 0) d_MO_refuse_5 (by decide) ?_
              refine aw_iret d_MO_refuse_6 rfl (by decide) (by decide) (ab_go1 ?_)
              refine aw_iret d_MO_smooth_36 rfl (by decide) (by decide) ?_
              first | (exfalso; omega) | exact hF (by rw [fz_zero] at *; omega) | exact hO (by rw [fz_zero] at *; omega) (by omega)
set_option maxRecDepth 4000 in
theorem R_smooth1 {l : Launch} {M : ab_M} {Q : ab_O → ab_M → Prop} {S : Sg} (sr : iSR S M) (hs : S.1 ≤ 1) {mu : UInt64} (fm : fF mu) (hF : ¬ (0 < fz mu ∧ fz mu ≤ fz FP.dconst1) → Q (.inl (some (.int (nI 0)))) (thrM 1 M)) (hO : 0 < fz mu → fz mu ≤ fz FP.dconst1 → Q (.inl (some (.int (nI S.1)))) (smR 1 mu M)) : AW sys l ab_Zt k_MO_smooth 1 22 0 [(0, .ref (57)), (1, .int (nI (1))), (2, .double (mu))] [] M 0 0 Q := by
  have e100 : fz (FP.i2d (nI 1)) = fz FP.dconst1 := by rw [fz_n (by omega), fz_one, Int.natCast_one, Int.one_mul]
  refine aw_iload_n d_MO_smooth_0 rfl 1 rfl ?_
  refine aw_iconst (v := nI 0) d_MO_smooth_1 (by decide) ?_
  refine aw_iconst (v := nI 1) d_MO_smooth_2 (by decide) ?_
  refine aw_callS (K' := k_MO_in) (As := [.int (nI (1)), .int (nI (0)), .int (nI (1))]) (rest := []) d_MO_smooth_3 rfl cs_MO_54 rfl (Nat.le_of_ble_eq_true rfl) (Nat.le_of_ble_eq_true rfl) (by decide) (by decide) (d' := 0) (w' := 0) (by decide) (by decide) ?_
  show AW _ _ _ _ _ _ _ [(0, .int (nI (1))), (1, .int (nI (0))), (2, .int (nI (1)))] _ _ _ _ _
  refine aw_iload_n d_MO_in_0 rfl 0 rfl ?_
  refine aw_iload_n d_MO_in_1 rfl 1 rfl ?_
  refine aw_icmp_ltN (tgt := 14) d_MO_in_2 (by decide) (by omega) (by omega) (fun c1 => ?_) (fun c1 => ?_)
  · skip
    refine aw_iconst (v := nI 0) d_MO_in_14 (by decide) ?_
    refine aw_zret (Or.inl rfl) d_MO_in_15 rfl (by decide) (by decide) (ab_go1 ?_)
    refine aw_if_eqN (tgt := 31) d_MO_smooth_6 (by decide) (by omega) (fun c2 => ?_) (fun c2 => ?_)
    · skip
      refine aw_aload_n d_MO_smooth_31 rfl 0 rfl ?_
      refine aw_iconst (v := nI 1) d_MO_smooth_32 (by decide) ?_
      refine aw_callV (K' := k_MO_refuse) (As := [.int (nI (1))]) (rest := []) (b := 57) d_MO_smooth_33 rfl rfl rfl cs_MO_58 rfl (Nat.le_of_ble_eq_true rfl) (Nat.le_of_ble_eq_true rfl) (by decide) (by decide) (d' := 0) (w' := 0) (by decide) (by decide) ?_
      show AW _ _ _ _ _ _ _ [(0, .ref (57)), (1, .int (nI (1)))] _ _ _ _ _
      refine aw_aload_n d_MO_refuse_0 rfl 0 rfl ?_
      refine aw_iload_n d_MO_refuse_1 rfl 1 rfl ?_
      refine aw_putI (ic := 57) (ci := 6) (k := 0) d_MO_refuse_2 rfl rfl (by decide) rfl rfl rfl mw_775 ?_
      refine aw_iconst (v := nI 0) d_MO_refuse_5 (by decide) ?_
      refine aw_iret d_MO_refuse_6 rfl (by decide) (by decide) (ab_go1 ?_)
      refine aw_iret d_MO_smooth_36 rfl (by decide) (by decide) ?_
      first | (exfalso; omega) | exact hF (by rw [fz_zero] at *; omega) | exact hO (by rw [fz_zero] at *; omega) (by omega)
    · skip
      exact absurd c2 (by decide)
  · skip
    refine aw_iload_n d_MO_in_5 rfl 0 rfl ?_
    refine aw_iload_n d_MO_in_6 rfl 2 rfl ?_
    refine aw_icmp_gtN (tgt := 14) d_MO_in_7 (by decide) (by omega) (by omega) (fun c3 => ?_) (fun c3 => ?_)
    · skip
      refine aw_iconst (v := nI 0) d_MO_in_14 (by decide) ?_
      refine aw_zret (Or.inl rfl) d_MO_in_15 rfl (by decide) (by decide) (ab_go1 ?_)
      refine aw_if_eqN (tgt := 31) d_MO_smooth_6 (by decide) (by omega) (fun c4 => ?_) (fun c4 => ?_)
      · skip
        refine aw_aload_n d_MO_smooth_31 rfl 0 rfl ?_
        refine aw_iconst (v := nI 1) d_MO_smooth_32 (by decide) ?_
        refine aw_callV (K' := k_MO_refuse) (As := [.int (nI (1))]) (rest := []) (b := 57) d_MO_smooth_33 rfl rfl rfl cs_MO_58 rfl (Nat.le_of_ble_eq_true rfl) (Nat.le_of_ble_eq_true rfl) (by decide) (by decide) (d' := 0) (w' := 0) (by decide) (by decide) ?_
        show AW _ _ _ _ _ _ _ [(0, .ref (57)), (1, .int (nI (1)))] _ _ _ _ _
        refine aw_aload_n d_MO_refuse_0 rfl 0 rfl ?_
        refine aw_iload_n d_MO_refuse_1 rfl 1 rfl ?_
        refine aw_putI (ic := 57) (ci := 6) (k := 0) d_MO_refuse_2 rfl rfl (by decide) rfl rfl rfl mw_775 ?_
        refine aw_iconst (v := nI 0) d_MO_refuse_5 (by decide) ?_
        refine aw_iret d_MO_refuse_6 rfl (by decide) (by decide) (ab_go1 ?_)
        refine aw_iret d_MO_smooth_36 rfl (by decide) (by decide) ?_
        first | (exfalso; omega) | exact hF (by rw [fz_zero] at *; omega) | exact hO (by rw [fz_zero] at *; omega) (by omega)
      · skip
        exact absurd c4 (by decide)
    · skip
      refine aw_iconst (v := nI 1) d_MO_in_10 (by decide) ?_
      refine aw_goto (tgt := 15) d_MO_in_11 (by decide) ?_
      refine aw_zret (Or.inr rfl) d_MO_in_15 rfl (by decide) (by decide) (ab_go1 ?_)
      refine aw_if_eqN (tgt := 31) d_MO_smooth_6 (by decide) (by omega) (fun c5 => ?_) (fun c5 => ?_)
      · skip
        exact absurd c5 (by decide)
      · skip
        refine aw_dload_n d_MO_smooth_9 rfl 2 rfl ?_
        refine aw_dconst0 d_MO_smooth_10 ?_
        refine aw_dcmp d_MO_smooth_11 ?_
        refine ad_le fm.n fF_zero.n d_MO_smooth_12 (tgt := 31) (by decide) (fun c6 => ?_) (fun c6 => ?_)
        · skip
          refine aw_aload_n d_MO_smooth_31 rfl 0 rfl ?_
          refine aw_iconst (v := nI 1) d_MO_smooth_32 (by decide) ?_
          refine aw_callV (K' := k_MO_refuse) (As := [.int (nI (1))]) (rest := []) (b := 57) d_MO_smooth_33 rfl rfl rfl cs_MO_58 rfl (Nat.le_of_ble_eq_true rfl) (Nat.le_of_ble_eq_true rfl) (by decide) (by decide) (d' := 0) (w' := 0) (by decide) (by decide) ?_
          show AW _ _ _ _ _ _ _ [(0, .ref (57)), (1, .int (nI (1)))] _ _ _ _ _
          refine aw_aload_n d_MO_refuse_0 rfl 0 rfl ?_
          refine aw_iload_n d_MO_refuse_1 rfl 1 rfl ?_
          refine aw_putI (ic := 57) (ci := 6) (k := 0) d_MO_refuse_2 rfl rfl (by decide) rfl rfl rfl mw_775 ?_
          refine aw_iconst (v := nI 0) d_MO_refuse_5 (by decide) ?_
          refine aw_iret d_MO_refuse_6 rfl (by decide) (by decide) (ab_go1 ?_)
          refine aw_iret d_MO_smooth_36 rfl (by decide) (by decide) ?_
          first | (exfalso; omega) | exact hF (by rw [fz_zero] at *; omega) | exact hO (by rw [fz_zero] at *; omega) (by omega)
        · skip
          refine aw_dload_n d_MO_smooth_15 rfl 2 rfl ?_
          refine aw_iload_n d_MO_smooth_16 rfl 1 rfl ?_
          refine aw_if_neN (tgt := 25) d_MO_smooth_17 (by decide) (by omega) (fun c7 => ?_) (fun c7 => ?_)
          · skip
            refine aw_iconst (v := nI 1) d_MO_smooth_25 (by decide) ?_
            refine aw_i2d d_MO_smooth_26 ?_
            refine aw_dcmp d_MO_smooth_27 ?_
            refine ad_le fm.n (fF_i _).n d_MO_smooth_28 (tgt := 37) (by decide) (fun c8 => ?_) (fun c8 => ?_)
            · skip
              refine aw_aload_n d_MO_smooth_37 rfl 0 rfl ?_
              refine aw_iconst (v := nI 0) d_MO_smooth_38 (by decide) ?_
              refine aw_putI (ic := 57) (ci := 6) (k := 0) d_MO_smooth_39 rfl rfl (by decide) rfl rfl rfl mw_775 ?_
              refine aw_aload_n d_MO_smooth_42 rfl 0 rfl ?_
              refine aw_get (ic := 57) (ci := 6) (k := 9) d_MO_smooth_43 rfl rfl (by decide) rfl mw_784 rfl ?_
              refine aw_eqi (nI (S.1)) (by repeat (first | rw [sI_ne (by omega)] | rw [sD_1]); exact sr.1) ?_
              refine aw_istore (lv' := [(4, .int (nI (S.1))), (0, .ref (57)), (1, .int (nI (1))), (2, .double (mu))]) d_MO_smooth_46 (by decide) rfl ?_
              refine aw_aload_n d_MO_smooth_48 rfl 1 rfl ?_
              refine aw_iload_n d_MO_smooth_49 rfl 2 rfl ?_
              refine aw_putI (ic := 57) (ci := 6) (k := 9) d_MO_smooth_50 rfl rfl (by decide) rfl rfl rfl mw_784 ?_
              refine aw_aload_n d_MO_smooth_53 rfl 1 rfl ?_
              refine aw_dload_n d_MO_smooth_54 rfl 3 rfl ?_
              refine aw_putD (ic := 57) (ci := 6) (k := 10) d_MO_smooth_55 rfl rfl (by decide) rfl rfl rfl mw_785 ?_
              refine aw_iload d_MO_smooth_58 0 rfl ?_
              refine aw_iret d_MO_smooth_60 rfl (by decide) (by decide) ?_
              first | (exfalso; omega) | exact hF (by rw [fz_zero] at *; omega) | exact hO (by rw [fz_zero] at *; omega) (by omega)
            · skip
              refine aw_aload_n d_MO_smooth_31 rfl 0 rfl ?_
              refine aw_iconst (v := nI 1) d_MO_smooth_32 (by decide) ?_
              refine aw_callV (K' := k_MO_refuse) (As := [.int (nI (1))]) (rest := []) (b := 57) d_MO_smooth_33 rfl rfl rfl cs_MO_58 rfl (Nat.le_of_ble_eq_true rfl) (Nat.le_of_ble_eq_true rfl) (by decide) (by decide) (d' := 0) (w' := 0) (by decide) (by decide) ?_
              show AW _ _ _ _ _ _ _ [(0, .ref (57)), (1, .int (nI (1)))] _ _ _ _ _
              refine aw_aload_n d_MO_refuse_0 rfl 0 rfl ?_
              refine aw_iload_n d_MO_refuse_1 rfl 1 rfl ?_
              refine aw_putI (ic := 57) (ci := 6) (k := 0) d_MO_refuse_2 rfl rfl (by decide) rfl rfl rfl mw_775 ?_
              refine aw_iconst (v := nI 0) d_MO_refuse_5 (by decide) ?_
              refine aw_iret d_MO_refuse_6 rfl (by decide) (by decide) (ab_go1 ?_)
              refine aw_iret d_MO_smooth_36 rfl (by decide) (by decide) ?_
              first | (exfalso; omega) | exact hF (by rw [fz_zero] at *; omega) | exact hO (by rw [fz_zero] at *; omega) (by omega)
          · skip
            exact absurd c7 (by decide)
set_option maxRecDepth 4000 in
theorem R_clear {l : Launch} {M : ab_M} {Q : ab_O → ab_M → Prop} {T : Qg} (wq : wQ T) (qr : iQR T M) (hQ : Q (.inl (some (.int (nI (qn T))))) (clrR M)) : AW sys l ab_Zt k_MO_clear 0 0 0 [(0, .ref (57))] [] M 0 0 Q := by
  refine aw_aload_n d_MO_clear_0 rfl 0 rfl ?_
  refine aw_iconst (v := nI 0) d_MO_clear_1 (by decide) ?_
  refine aw_putI (ic := 57) (ci := 6) (k := 0) d_MO_clear_2 rfl rfl (by decide) rfl rfl rfl mw_775 ?_
  refine aw_aload_n d_MO_clear_5 rfl 0 rfl ?_
  refine aw_get (ic := 57) (ci := 6) (k := 8) d_MO_clear_6 rfl rfl (by decide) rfl mw_783 rfl ?_
  refine aw_eqi (nI (qn T)) (by repeat (first | rw [sI_ne (by omega)] | rw [sD_1]); exact qr.1) ?_
  refine aw_istore_n (lv' := [(1, .int (nI (qn T))), (0, .ref (57))]) d_MO_clear_9 rfl (by decide) rfl ?_
  refine aw_aload_n d_MO_clear_10 rfl 1 rfl ?_
  refine aw_iconst (v := nI 0) d_MO_clear_11 (by decide) ?_
  refine aw_putI (ic := 57) (ci := 6) (k := 8) d_MO_clear_12 rfl rfl (by decide) rfl rfl rfl mw_783 ?_
  refine aw_iload_n d_MO_clear_15 rfl 0 rfl ?_
  refine aw_iret d_MO_clear_16 rfl (by decide) (by decide) ?_
  exact hQ
set_option maxRecDepth 4000 in
theorem R_wanted {l : Launch} {M : ab_M} {Q : ab_O → ab_M → Prop} {T : Qg} (wq : wQ T) (qr : iQR T M) (hQ : Q (.inl (some (.int (nI (op T (qn T)))))) (thrM 0 M)) : AW sys l ab_Zt k_MO_wanted 2 44 0 [(0, .ref (57))] [] M 0 0 Q := by
  refine aw_aload_n d_MO_wanted_0 rfl 0 rfl ?_
  refine aw_iconst (v := nI 0) d_MO_wanted_1 (by decide) ?_
  refine aw_putI (ic := 57) (ci := 6) (k := 0) d_MO_wanted_2 rfl rfl (by decide) rfl rfl rfl mw_775 ?_
  refine aw_aload_n d_MO_wanted_5 rfl 0 rfl ?_
  refine aw_callV (K' := k_MO_open) (As := []) (rest := []) (b := 57) d_MO_wanted_6 rfl rfl rfl cs_MO_84 rfl (Nat.le_of_ble_eq_true rfl) (Nat.le_of_ble_eq_true rfl) (by decide) (by decide) (d' := 1) (w' := 22) (by decide) (by decide) ?_
  show AW _ _ _ _ _ _ _ [(0, .ref (57))] _ _ _ _ _
  refine B_open wq (frB_qr (thr_fr 0 M) qr) ?_
  refine ab_go1 ?_
  refine aw_iret d_MO_wanted_9 rfl (by decide) (by decide) ?_
  exact hQ
set_option maxRecDepth 4000 in
theorem R_found_bad {l : Launch} {M : ab_M} {Q : ab_O → ab_M → Prop} {R : Rg} (hn : rn R ≤ 12) (rr : iRR R M) {x : Int32} (hb : x.toInt < 0 ∨ (rn R : Int) ≤ x.toInt) (hQ : Q (.inl (some (.int (nI 0)))) (thrM 1 M)) : AW sys l ab_Zt k_MO_found 1 22 0 [(0, .ref (57)), (1, .int (x))] [] M 0 0 Q := by
  refine aw_iload_n d_MO_found_0 rfl 1 rfl ?_
  refine aw_iconst (v := nI 0) d_MO_found_1 (by decide) ?_
  refine aw_aload_n d_MO_found_2 rfl 0 rfl ?_
  refine aw_get (ic := 57) (ci := 6) (k := 18) d_MO_found_3 rfl rfl (by decide) rfl mw_793 rfl ?_
  refine aw_eqi (nI (rn R)) rr.1 ?_
  refine aw_iconst (v := nI 1) d_MO_found_6 (by decide) ?_
  refine aw_isub d_MO_found_7 ?_
  refine aw_callS (K' := k_MO_in) (As := [.int (x), .int (nI (0)), .int (nI (rn R) - nI 1)]) (rest := []) d_MO_found_8 rfl cs_MO_54 rfl (Nat.le_of_ble_eq_true rfl) (Nat.le_of_ble_eq_true rfl) (by decide) (by decide) (d' := 0) (w' := 0) (by decide) (by decide) ?_
  show AW _ _ _ _ _ _ _ [(0, .int (x)), (1, .int (nI (0))), (2, .int (nI (rn R) - nI 1))] _ _ _ _ _
  refine aw_iload_n d_MO_in_0 rfl 0 rfl ?_
  refine aw_iload_n d_MO_in_1 rfl 1 rfl ?_
  refine at_lt rfl (nI_toInt (by omega)) (tgt := 14) d_MO_in_2 (by decide) (fun c1 => ?_) (fun c1 => ?_)
  · skip
    refine aw_iconst (v := nI 0) d_MO_in_14 (by decide) ?_
    refine aw_zret (Or.inl rfl) d_MO_in_15 rfl (by decide) (by decide) (ab_go1 ?_)
    refine aw_if_neN (tgt := 20) d_MO_found_11 (by decide) (by omega) (fun c2 => ?_) (fun c2 => ?_)
    · skip
      exact absurd c2 (by decide)
    · skip
      refine aw_aload_n d_MO_found_14 rfl 0 rfl ?_
      refine aw_iconst (v := nI 1) d_MO_found_15 (by decide) ?_
      refine aw_callV (K' := k_MO_refuse) (As := [.int (nI (1))]) (rest := []) (b := 57) d_MO_found_16 rfl rfl rfl cs_MO_58 rfl (Nat.le_of_ble_eq_true rfl) (Nat.le_of_ble_eq_true rfl) (by decide) (by decide) (d' := 0) (w' := 0) (by decide) (by decide) ?_
      show AW _ _ _ _ _ _ _ [(0, .ref (57)), (1, .int (nI (1)))] _ _ _ _ _
      refine aw_aload_n d_MO_refuse_0 rfl 0 rfl ?_
      refine aw_iload_n d_MO_refuse_1 rfl 1 rfl ?_
      refine aw_putI (ic := 57) (ci := 6) (k := 0) d_MO_refuse_2 rfl rfl (by decide) rfl rfl rfl mw_775 ?_
      refine aw_iconst (v := nI 0) d_MO_refuse_5 (by decide) ?_
      refine aw_iret d_MO_refuse_6 rfl (by decide) (by decide) (ab_go1 ?_)
      refine aw_iret d_MO_found_19 rfl (by decide) (by decide) ?_
      first | exact hQ | (exfalso; omega)
  · skip
    refine aw_iload_n d_MO_in_5 rfl 0 rfl ?_
    refine aw_iload_n d_MO_in_6 rfl 2 rfl ?_
    refine at_gt rfl (nm_int (by omega)) (tgt := 14) d_MO_in_7 (by decide) (fun c3 => ?_) (fun c3 => ?_)
    · skip
      refine aw_iconst (v := nI 0) d_MO_in_14 (by decide) ?_
      refine aw_zret (Or.inl rfl) d_MO_in_15 rfl (by decide) (by decide) (ab_go1 ?_)
      refine aw_if_neN (tgt := 20) d_MO_found_11 (by decide) (by omega) (fun c4 => ?_) (fun c4 => ?_)
      · skip
        exact absurd c4 (by decide)
      · skip
        refine aw_aload_n d_MO_found_14 rfl 0 rfl ?_
        refine aw_iconst (v := nI 1) d_MO_found_15 (by decide) ?_
        refine aw_callV (K' := k_MO_refuse) (As := [.int (nI (1))]) (rest := []) (b := 57) d_MO_found_16 rfl rfl rfl cs_MO_58 rfl (Nat.le_of_ble_eq_true rfl) (Nat.le_of_ble_eq_true rfl) (by decide) (by decide) (d' := 0) (w' := 0) (by decide) (by decide) ?_
        show AW _ _ _ _ _ _ _ [(0, .ref (57)), (1, .int (nI (1)))] _ _ _ _ _
        refine aw_aload_n d_MO_refuse_0 rfl 0 rfl ?_
        refine aw_iload_n d_MO_refuse_1 rfl 1 rfl ?_
        refine aw_putI (ic := 57) (ci := 6) (k := 0) d_MO_refuse_2 rfl rfl (by decide) rfl rfl rfl mw_775 ?_
        refine aw_iconst (v := nI 0) d_MO_refuse_5 (by decide) ?_
        refine aw_iret d_MO_refuse_6 rfl (by decide) (by decide) (ab_go1 ?_)
        refine aw_iret d_MO_found_19 rfl (by decide) (by decide) ?_
        first | exact hQ | (exfalso; omega)
    · skip
      refine aw_iconst (v := nI 1) d_MO_in_10 (by decide) ?_
      refine aw_goto (tgt := 15) d_MO_in_11 (by decide) ?_
      refine aw_zret (Or.inr rfl) d_MO_in_15 rfl (by decide) (by decide) (ab_go1 ?_)
      refine aw_if_neN (tgt := 20) d_MO_found_11 (by decide) (by omega) (fun c5 => ?_) (fun c5 => ?_)
      · skip
        exfalso; omega
      · skip
        exact absurd c5 (by decide)
set_option maxRecDepth 4000 in
theorem R_found {l : Launch} {M : ab_M} {Q : ab_O → ab_M → Prop} {R : Rg} (hn : rn R ≤ 12) (rr : iRR R M) {k : Nat} (hk : k < rn R) (hQ : Q (.inl (some (.int (nI (rd R k))))) (thrM 0 M)) : AW sys l ab_Zt k_MO_found 1 22 0 [(0, .ref (57)), (1, .int (nI (k)))] [] M 0 0 Q := by
  refine aw_iload_n d_MO_found_0 rfl 1 rfl ?_
  refine aw_iconst (v := nI 0) d_MO_found_1 (by decide) ?_
  refine aw_aload_n d_MO_found_2 rfl 0 rfl ?_
  refine aw_get (ic := 57) (ci := 6) (k := 18) d_MO_found_3 rfl rfl (by decide) rfl mw_793 rfl ?_
  refine aw_eqi (nI (rn R)) rr.1 ?_
  refine aw_iconst (v := nI 1) d_MO_found_6 (by decide) ?_
  refine aw_isub d_MO_found_7 ?_
  refine aw_callS (K' := k_MO_in) (As := [.int (nI (k)), .int (nI (0)), .int (nI (rn R) - nI 1)]) (rest := []) d_MO_found_8 rfl cs_MO_54 rfl (Nat.le_of_ble_eq_true rfl) (Nat.le_of_ble_eq_true rfl) (by decide) (by decide) (d' := 0) (w' := 0) (by decide) (by decide) ?_
  show AW _ _ _ _ _ _ _ [(0, .int (nI (k))), (1, .int (nI (0))), (2, .int (nI (rn R) - nI 1))] _ _ _ _ _
  refine aw_iload_n d_MO_in_0 rfl 0 rfl ?_
  refine aw_iload_n d_MO_in_1 rfl 1 rfl ?_
  refine aw_icmp_ltN (tgt := 14) d_MO_in_2 (by decide) (by omega) (by omega) (fun c1 => ?_) (fun c1 => ?_)
  · skip
    refine aw_iconst (v := nI 0) d_MO_in_14 (by decide) ?_
    refine aw_zret (Or.inl rfl) d_MO_in_15 rfl (by decide) (by decide) (ab_go1 ?_)
    refine aw_if_neN (tgt := 20) d_MO_found_11 (by decide) (by omega) (fun c2 => ?_) (fun c2 => ?_)
    · skip
      exact absurd c2 (by decide)
    · skip
      exfalso; omega
  · skip
    refine aw_iload_n d_MO_in_5 rfl 0 rfl ?_
    refine aw_iload_n d_MO_in_6 rfl 2 rfl ?_
    refine at_gt (nI_toInt (by omega)) (nm_int (by omega)) (tgt := 14) d_MO_in_7 (by decide) (fun c3 => ?_) (fun c3 => ?_)
    · skip
      refine aw_iconst (v := nI 0) d_MO_in_14 (by decide) ?_
      refine aw_zret (Or.inl rfl) d_MO_in_15 rfl (by decide) (by decide) (ab_go1 ?_)
      refine aw_if_neN (tgt := 20) d_MO_found_11 (by decide) (by omega) (fun c4 => ?_) (fun c4 => ?_)
      · skip
        exact absurd c4 (by decide)
      · skip
        exfalso; omega
    · skip
      refine aw_iconst (v := nI 1) d_MO_in_10 (by decide) ?_
      refine aw_goto (tgt := 15) d_MO_in_11 (by decide) ?_
      refine aw_zret (Or.inr rfl) d_MO_in_15 rfl (by decide) (by decide) (ab_go1 ?_)
      refine aw_if_neN (tgt := 20) d_MO_found_11 (by decide) (by omega) (fun c5 => ?_) (fun c5 => ?_)
      · skip
        refine aw_aload_n d_MO_found_20 rfl 0 rfl ?_
        refine aw_iconst (v := nI 0) d_MO_found_21 (by decide) ?_
        refine aw_putI (ic := 57) (ci := 6) (k := 0) d_MO_found_22 rfl rfl (by decide) rfl rfl rfl mw_775 ?_
        refine aw_aload_n d_MO_found_25 rfl 0 rfl ?_
        refine aw_get (ic := 57) (ci := 6) (k := 16) (v := .ref 67) d_MO_found_26 rfl rfl (by decide) rfl mw_791 rfl ?_
        refine aw_iload_n d_MO_found_29 rfl 1 rfl ?_
        refine aw_ialdN d_MO_found_30 rfl (by decide) (by omega) ?_
        refine aw_eqi (nI (rd R k)) (by repeat (first | rw [sI_ne (by omega)] | rw [sD_1]); exact (rr.2.2.1 _ (by omega))) ?_
        refine aw_iret d_MO_found_31 rfl (by decide) (by decide) ?_
        exact hQ
      · skip
        exact absurd c5 (by decide)
set_option maxRecDepth 4000 in
theorem R_score_bad {l : Launch} {M : ab_M} {Q : ab_O → ab_M → Prop} {R : Rg} (hn : rn R ≤ 12) (rr : iRR R M) {x : Int32} (hb : x.toInt < 0 ∨ (rn R : Int) ≤ x.toInt) (hQ : Q (.inl (some (.double (FP.i2d (nI 0))))) (thrM 1 M)) : AW sys l ab_Zt k_MO_score 1 22 0 [(0, .ref (57)), (1, .int (x))] [] M 0 0 Q := by
  refine aw_iload_n d_MO_score_0 rfl 1 rfl ?_
  refine aw_iconst (v := nI 0) d_MO_score_1 (by decide) ?_
  refine aw_aload_n d_MO_score_2 rfl 0 rfl ?_
  refine aw_get (ic := 57) (ci := 6) (k := 18) d_MO_score_3 rfl rfl (by decide) rfl mw_793 rfl ?_
  refine aw_eqi (nI (rn R)) rr.1 ?_
  refine aw_iconst (v := nI 1) d_MO_score_6 (by decide) ?_
  refine aw_isub d_MO_score_7 ?_
  refine aw_callS (K' := k_MO_in) (As := [.int (x), .int (nI (0)), .int (nI (rn R) - nI 1)]) (rest := []) d_MO_score_8 rfl cs_MO_54 rfl (Nat.le_of_ble_eq_true rfl) (Nat.le_of_ble_eq_true rfl) (by decide) (by decide) (d' := 0) (w' := 0) (by decide) (by decide) ?_
  show AW _ _ _ _ _ _ _ [(0, .int (x)), (1, .int (nI (0))), (2, .int (nI (rn R) - nI 1))] _ _ _ _ _
  refine aw_iload_n d_MO_in_0 rfl 0 rfl ?_
  refine aw_iload_n d_MO_in_1 rfl 1 rfl ?_
  refine at_lt rfl (nI_toInt (by omega)) (tgt := 14) d_MO_in_2 (by decide) (fun c1 => ?_) (fun c1 => ?_)
  · skip
    refine aw_iconst (v := nI 0) d_MO_in_14 (by decide) ?_
    refine aw_zret (Or.inl rfl) d_MO_in_15 rfl (by decide) (by decide) (ab_go1 ?_)
    refine aw_if_neN (tgt := 21) d_MO_score_11 (by decide) (by omega) (fun c2 => ?_) (fun c2 => ?_)
    · skip
      exact absurd c2 (by decide)
    · skip
      refine aw_aload_n d_MO_score_14 rfl 0 rfl ?_
      refine aw_iconst (v := nI 1) d_MO_score_15 (by decide) ?_
      refine aw_callV (K' := k_MO_refuse) (As := [.int (nI (1))]) (rest := []) (b := 57) d_MO_score_16 rfl rfl rfl cs_MO_58 rfl (Nat.le_of_ble_eq_true rfl) (Nat.le_of_ble_eq_true rfl) (by decide) (by decide) (d' := 0) (w' := 0) (by decide) (by decide) ?_
      show AW _ _ _ _ _ _ _ [(0, .ref (57)), (1, .int (nI (1)))] _ _ _ _ _
      refine aw_aload_n d_MO_refuse_0 rfl 0 rfl ?_
      refine aw_iload_n d_MO_refuse_1 rfl 1 rfl ?_
      refine aw_putI (ic := 57) (ci := 6) (k := 0) d_MO_refuse_2 rfl rfl (by decide) rfl rfl rfl mw_775 ?_
      refine aw_iconst (v := nI 0) d_MO_refuse_5 (by decide) ?_
      refine aw_iret d_MO_refuse_6 rfl (by decide) (by decide) (ab_go1 ?_)
      refine aw_i2d d_MO_score_19 ?_
      refine aw_dret d_MO_score_20 rfl (by decide) (by decide) ?_
      first | exact hQ | (exfalso; omega)
  · skip
    refine aw_iload_n d_MO_in_5 rfl 0 rfl ?_
    refine aw_iload_n d_MO_in_6 rfl 2 rfl ?_
    refine at_gt rfl (nm_int (by omega)) (tgt := 14) d_MO_in_7 (by decide) (fun c3 => ?_) (fun c3 => ?_)
    · skip
      refine aw_iconst (v := nI 0) d_MO_in_14 (by decide) ?_
      refine aw_zret (Or.inl rfl) d_MO_in_15 rfl (by decide) (by decide) (ab_go1 ?_)
      refine aw_if_neN (tgt := 21) d_MO_score_11 (by decide) (by omega) (fun c4 => ?_) (fun c4 => ?_)
      · skip
        exact absurd c4 (by decide)
      · skip
        refine aw_aload_n d_MO_score_14 rfl 0 rfl ?_
        refine aw_iconst (v := nI 1) d_MO_score_15 (by decide) ?_
        refine aw_callV (K' := k_MO_refuse) (As := [.int (nI (1))]) (rest := []) (b := 57) d_MO_score_16 rfl rfl rfl cs_MO_58 rfl (Nat.le_of_ble_eq_true rfl) (Nat.le_of_ble_eq_true rfl) (by decide) (by decide) (d' := 0) (w' := 0) (by decide) (by decide) ?_
        show AW _ _ _ _ _ _ _ [(0, .ref (57)), (1, .int (nI (1)))] _ _ _ _ _
        refine aw_aload_n d_MO_refuse_0 rfl 0 rfl ?_
        refine aw_iload_n d_MO_refuse_1 rfl 1 rfl ?_
        refine aw_putI (ic := 57) (ci := 6) (k := 0) d_MO_refuse_2 rfl rfl (by decide) rfl rfl rfl mw_775 ?_
        refine aw_iconst (v := nI 0) d_MO_refuse_5 (by decide) ?_
        refine aw_iret d_MO_refuse_6 rfl (by decide) (by decide) (ab_go1 ?_)
        refine aw_i2d d_MO_score_19 ?_
        refine aw_dret d_MO_score_20 rfl (by decide) (by decide) ?_
        first | exact hQ | (exfalso; omega)
    · skip
      refine aw_iconst (v := nI 1) d_MO_in_10 (by decide) ?_
      refine aw_goto (tgt := 15) d_MO_in_11 (by decide) ?_
      refine aw_zret (Or.inr rfl) d_MO_in_15 rfl (by decide) (by decide) (ab_go1 ?_)
      refine aw_if_neN (tgt := 21) d_MO_score_11 (by decide) (by omega) (fun c5 => ?_) (fun c5 => ?_)
      · skip
        exfalso; omega
      · skip
        exact absurd c5 (by decide)
set_option maxRecDepth 4000 in
theorem R_score {l : Launch} {M : ab_M} {Q : ab_O → ab_M → Prop} {R : Rg} (hn : rn R ≤ 12) (rr : iRR R M) {k : Nat} (hk : k < rn R) (hQ : Q (.inl (some (.double (rb R k)))) (thrM 0 M)) : AW sys l ab_Zt k_MO_score 1 22 0 [(0, .ref (57)), (1, .int (nI (k)))] [] M 0 0 Q := by
  refine aw_iload_n d_MO_score_0 rfl 1 rfl ?_
  refine aw_iconst (v := nI 0) d_MO_score_1 (by decide) ?_
  refine aw_aload_n d_MO_score_2 rfl 0 rfl ?_
  refine aw_get (ic := 57) (ci := 6) (k := 18) d_MO_score_3 rfl rfl (by decide) rfl mw_793 rfl ?_
  refine aw_eqi (nI (rn R)) rr.1 ?_
  refine aw_iconst (v := nI 1) d_MO_score_6 (by decide) ?_
  refine aw_isub d_MO_score_7 ?_
  refine aw_callS (K' := k_MO_in) (As := [.int (nI (k)), .int (nI (0)), .int (nI (rn R) - nI 1)]) (rest := []) d_MO_score_8 rfl cs_MO_54 rfl (Nat.le_of_ble_eq_true rfl) (Nat.le_of_ble_eq_true rfl) (by decide) (by decide) (d' := 0) (w' := 0) (by decide) (by decide) ?_
  show AW _ _ _ _ _ _ _ [(0, .int (nI (k))), (1, .int (nI (0))), (2, .int (nI (rn R) - nI 1))] _ _ _ _ _
  refine aw_iload_n d_MO_in_0 rfl 0 rfl ?_
  refine aw_iload_n d_MO_in_1 rfl 1 rfl ?_
  refine aw_icmp_ltN (tgt := 14) d_MO_in_2 (by decide) (by omega) (by omega) (fun c1 => ?_) (fun c1 => ?_)
  · skip
    refine aw_iconst (v := nI 0) d_MO_in_14 (by decide) ?_
    refine aw_zret (Or.inl rfl) d_MO_in_15 rfl (by decide) (by decide) (ab_go1 ?_)
    refine aw_if_neN (tgt := 21) d_MO_score_11 (by decide) (by omega) (fun c2 => ?_) (fun c2 => ?_)
    · skip
      exact absurd c2 (by decide)
    · skip
      exfalso; omega
  · skip
    refine aw_iload_n d_MO_in_5 rfl 0 rfl ?_
    refine aw_iload_n d_MO_in_6 rfl 2 rfl ?_
    refine at_gt (nI_toInt (by omega)) (nm_int (by omega)) (tgt := 14) d_MO_in_7 (by decide) (fun c3 => ?_) (fun c3 => ?_)
    · skip
      refine aw_iconst (v := nI 0) d_MO_in_14 (by decide) ?_
      refine aw_zret (Or.inl rfl) d_MO_in_15 rfl (by decide) (by decide) (ab_go1 ?_)
      refine aw_if_neN (tgt := 21) d_MO_score_11 (by decide) (by omega) (fun c4 => ?_) (fun c4 => ?_)
      · skip
        exact absurd c4 (by decide)
      · skip
        exfalso; omega
    · skip
      refine aw_iconst (v := nI 1) d_MO_in_10 (by decide) ?_
      refine aw_goto (tgt := 15) d_MO_in_11 (by decide) ?_
      refine aw_zret (Or.inr rfl) d_MO_in_15 rfl (by decide) (by decide) (ab_go1 ?_)
      refine aw_if_neN (tgt := 21) d_MO_score_11 (by decide) (by omega) (fun c5 => ?_) (fun c5 => ?_)
      · skip
        refine aw_aload_n d_MO_score_21 rfl 0 rfl ?_
        refine aw_iconst (v := nI 0) d_MO_score_22 (by decide) ?_
        refine aw_putI (ic := 57) (ci := 6) (k := 0) d_MO_score_23 rfl rfl (by decide) rfl rfl rfl mw_775 ?_
        refine aw_aload_n d_MO_score_26 rfl 0 rfl ?_
        refine aw_get (ic := 57) (ci := 6) (k := 17) (v := .ref 68) d_MO_score_27 rfl rfl (by decide) rfl mw_792 rfl ?_
        refine aw_iload_n d_MO_score_30 rfl 1 rfl ?_
        refine aw_daldN d_MO_score_31 rfl (by decide) (by omega) ?_
        refine aw_eqd (rb R k) (by repeat (first | rw [sD_ne (by omega)] | rw [sI_2]); exact (rr.2.2.2 _ (by omega))) ?_
        refine aw_dret d_MO_score_32 rfl (by decide) (by decide) ?_
        exact hQ
      · skip
        exact absurd c5 (by decide)
set_option maxRecDepth 4000 in
theorem R_told_bad {l : Launch} {M : ab_M} {Q : ab_O → ab_M → Prop} {T : Qg} (wq : wQ T) (qr : iQR T M) {x y : Int32} (hb : x.toInt < 0 ∨ (qn T : Int) ≤ x.toInt) (hQ : Q (.inl (some (.double (FP.i2d (nI 0))))) (thrM 1 M)) : AW sys l ab_Zt k_MO_told 1 22 0 [(0, .ref (57)), (1, .int (x)), (2, .int (y))] [] M 0 0 Q := by
  have h24 := wq.1
  refine aw_iload_n d_MO_told_0 rfl 1 rfl ?_
  refine aw_iconst (v := nI 0) d_MO_told_1 (by decide) ?_
  refine aw_aload_n d_MO_told_2 rfl 0 rfl ?_
  refine aw_get (ic := 57) (ci := 6) (k := 8) d_MO_told_3 rfl rfl (by decide) rfl mw_783 rfl ?_
  refine aw_eqi (nI (qn T)) qr.1 ?_
  refine aw_iconst (v := nI 1) d_MO_told_6 (by decide) ?_
  refine aw_isub d_MO_told_7 ?_
  refine aw_callS (K' := k_MO_in) (As := [.int (x), .int (nI (0)), .int (nI (qn T) - nI 1)]) (rest := []) d_MO_told_8 rfl cs_MO_54 rfl (Nat.le_of_ble_eq_true rfl) (Nat.le_of_ble_eq_true rfl) (by decide) (by decide) (d' := 0) (w' := 0) (by decide) (by decide) ?_
  show AW _ _ _ _ _ _ _ [(0, .int (x)), (1, .int (nI (0))), (2, .int (nI (qn T) - nI 1))] _ _ _ _ _
  refine aw_iload_n d_MO_in_0 rfl 0 rfl ?_
  refine aw_iload_n d_MO_in_1 rfl 1 rfl ?_
  refine at_lt rfl (nI_toInt (by omega)) (tgt := 14) d_MO_in_2 (by decide) (fun c1 => ?_) (fun c1 => ?_)
  · skip
    refine aw_iconst (v := nI 0) d_MO_in_14 (by decide) ?_
    refine aw_zret (Or.inl rfl) d_MO_in_15 rfl (by decide) (by decide) (ab_go1 ?_)
    refine aw_if_neN (tgt := 21) d_MO_told_11 (by decide) (by omega) (fun c2 => ?_) (fun c2 => ?_)
    · skip
      exact absurd c2 (by decide)
    · skip
      refine aw_aload_n d_MO_told_14 rfl 0 rfl ?_
      refine aw_iconst (v := nI 1) d_MO_told_15 (by decide) ?_
      refine aw_callV (K' := k_MO_refuse) (As := [.int (nI (1))]) (rest := []) (b := 57) d_MO_told_16 rfl rfl rfl cs_MO_58 rfl (Nat.le_of_ble_eq_true rfl) (Nat.le_of_ble_eq_true rfl) (by decide) (by decide) (d' := 0) (w' := 0) (by decide) (by decide) ?_
      show AW _ _ _ _ _ _ _ [(0, .ref (57)), (1, .int (nI (1)))] _ _ _ _ _
      refine aw_aload_n d_MO_refuse_0 rfl 0 rfl ?_
      refine aw_iload_n d_MO_refuse_1 rfl 1 rfl ?_
      refine aw_putI (ic := 57) (ci := 6) (k := 0) d_MO_refuse_2 rfl rfl (by decide) rfl rfl rfl mw_775 ?_
      refine aw_iconst (v := nI 0) d_MO_refuse_5 (by decide) ?_
      refine aw_iret d_MO_refuse_6 rfl (by decide) (by decide) (ab_go1 ?_)
      refine aw_i2d d_MO_told_19 ?_
      refine aw_dret d_MO_told_20 rfl (by decide) (by decide) ?_
      first | exact hQ | (exfalso; omega)
  · skip
    refine aw_iload_n d_MO_in_5 rfl 0 rfl ?_
    refine aw_iload_n d_MO_in_6 rfl 2 rfl ?_
    refine at_gt rfl (nm_int (by omega)) (tgt := 14) d_MO_in_7 (by decide) (fun c3 => ?_) (fun c3 => ?_)
    · skip
      refine aw_iconst (v := nI 0) d_MO_in_14 (by decide) ?_
      refine aw_zret (Or.inl rfl) d_MO_in_15 rfl (by decide) (by decide) (ab_go1 ?_)
      refine aw_if_neN (tgt := 21) d_MO_told_11 (by decide) (by omega) (fun c4 => ?_) (fun c4 => ?_)
      · skip
        exact absurd c4 (by decide)
      · skip
        refine aw_aload_n d_MO_told_14 rfl 0 rfl ?_
        refine aw_iconst (v := nI 1) d_MO_told_15 (by decide) ?_
        refine aw_callV (K' := k_MO_refuse) (As := [.int (nI (1))]) (rest := []) (b := 57) d_MO_told_16 rfl rfl rfl cs_MO_58 rfl (Nat.le_of_ble_eq_true rfl) (Nat.le_of_ble_eq_true rfl) (by decide) (by decide) (d' := 0) (w' := 0) (by decide) (by decide) ?_
        show AW _ _ _ _ _ _ _ [(0, .ref (57)), (1, .int (nI (1)))] _ _ _ _ _
        refine aw_aload_n d_MO_refuse_0 rfl 0 rfl ?_
        refine aw_iload_n d_MO_refuse_1 rfl 1 rfl ?_
        refine aw_putI (ic := 57) (ci := 6) (k := 0) d_MO_refuse_2 rfl rfl (by decide) rfl rfl rfl mw_775 ?_
        refine aw_iconst (v := nI 0) d_MO_refuse_5 (by decide) ?_
        refine aw_iret d_MO_refuse_6 rfl (by decide) (by decide) (ab_go1 ?_)
        refine aw_i2d d_MO_told_19 ?_
        refine aw_dret d_MO_told_20 rfl (by decide) (by decide) ?_
        first | exact hQ | (exfalso; omega)
    · skip
      refine aw_iconst (v := nI 1) d_MO_in_10 (by decide) ?_
      refine aw_goto (tgt := 15) d_MO_in_11 (by decide) ?_
      refine aw_zret (Or.inr rfl) d_MO_in_15 rfl (by decide) (by decide) (ab_go1 ?_)
      refine aw_if_neN (tgt := 21) d_MO_told_11 (by decide) (by omega) (fun c5 => ?_) (fun c5 => ?_)
      · skip
        exfalso; omega
      · skip
        exact absurd c5 (by decide)
set_option maxRecDepth 4000 in
theorem R_told_badw {l : Launch} {M : ab_M} {Q : ab_O → ab_M → Prop} {T : Qg} (wq : wQ T) (qr : iQR T M) {t : Nat} (ht : t < qn T) {y : Int32} (hb : y.toInt < 0 ∨ 2 < y.toInt) (hQ : Q (.inl (some (.double (FP.i2d (nI 0))))) (thrM 2 M)) : AW sys l ab_Zt k_MO_told 1 22 0 [(0, .ref (57)), (1, .int (nI (t))), (2, .int (y))] [] M 0 0 Q := by
  have h24 := wq.1
  refine aw_iload_n d_MO_told_0 rfl 1 rfl ?_
  refine aw_iconst (v := nI 0) d_MO_told_1 (by decide) ?_
  refine aw_aload_n d_MO_told_2 rfl 0 rfl ?_
  refine aw_get (ic := 57) (ci := 6) (k := 8) d_MO_told_3 rfl rfl (by decide) rfl mw_783 rfl ?_
  refine aw_eqi (nI (qn T)) qr.1 ?_
  refine aw_iconst (v := nI 1) d_MO_told_6 (by decide) ?_
  refine aw_isub d_MO_told_7 ?_
  refine aw_callS (K' := k_MO_in) (As := [.int (nI (t)), .int (nI (0)), .int (nI (qn T) - nI 1)]) (rest := []) d_MO_told_8 rfl cs_MO_54 rfl (Nat.le_of_ble_eq_true rfl) (Nat.le_of_ble_eq_true rfl) (by decide) (by decide) (d' := 0) (w' := 0) (by decide) (by decide) ?_
  show AW _ _ _ _ _ _ _ [(0, .int (nI (t))), (1, .int (nI (0))), (2, .int (nI (qn T) - nI 1))] _ _ _ _ _
  refine aw_iload_n d_MO_in_0 rfl 0 rfl ?_
  refine aw_iload_n d_MO_in_1 rfl 1 rfl ?_
  refine aw_icmp_ltN (tgt := 14) d_MO_in_2 (by decide) (by omega) (by omega) (fun c1 => ?_) (fun c1 => ?_)
  · skip
    refine aw_iconst (v := nI 0) d_MO_in_14 (by decide) ?_
    refine aw_zret (Or.inl rfl) d_MO_in_15 rfl (by decide) (by decide) (ab_go1 ?_)
    refine aw_if_neN (tgt := 21) d_MO_told_11 (by decide) (by omega) (fun c2 => ?_) (fun c2 => ?_)
    · skip
      exact absurd c2 (by decide)
    · skip
      exfalso; omega
  · skip
    refine aw_iload_n d_MO_in_5 rfl 0 rfl ?_
    refine aw_iload_n d_MO_in_6 rfl 2 rfl ?_
    refine at_gt (nI_toInt (by omega)) (nm_int (by omega)) (tgt := 14) d_MO_in_7 (by decide) (fun c3 => ?_) (fun c3 => ?_)
    · skip
      refine aw_iconst (v := nI 0) d_MO_in_14 (by decide) ?_
      refine aw_zret (Or.inl rfl) d_MO_in_15 rfl (by decide) (by decide) (ab_go1 ?_)
      refine aw_if_neN (tgt := 21) d_MO_told_11 (by decide) (by omega) (fun c4 => ?_) (fun c4 => ?_)
      · skip
        exact absurd c4 (by decide)
      · skip
        exfalso; omega
    · skip
      refine aw_iconst (v := nI 1) d_MO_in_10 (by decide) ?_
      refine aw_goto (tgt := 15) d_MO_in_11 (by decide) ?_
      refine aw_zret (Or.inr rfl) d_MO_in_15 rfl (by decide) (by decide) (ab_go1 ?_)
      refine aw_if_neN (tgt := 21) d_MO_told_11 (by decide) (by omega) (fun c5 => ?_) (fun c5 => ?_)
      · skip
        refine aw_iload_n d_MO_told_21 rfl 2 rfl ?_
        refine aw_iconst (v := nI 0) d_MO_told_22 (by decide) ?_
        refine aw_iconst (v := nI 2) d_MO_told_23 (by decide) ?_
        refine aw_callS (K' := k_MO_in) (As := [.int (y), .int (nI (0)), .int (nI (2))]) (rest := []) d_MO_told_24 rfl cs_MO_54 rfl (Nat.le_of_ble_eq_true rfl) (Nat.le_of_ble_eq_true rfl) (by decide) (by decide) (d' := 0) (w' := 0) (by decide) (by decide) ?_
        show AW _ _ _ _ _ _ _ [(0, .int (y)), (1, .int (nI (0))), (2, .int (nI (2)))] _ _ _ _ _
        refine aw_iload_n d_MO_in_0 rfl 0 rfl ?_
        refine aw_iload_n d_MO_in_1 rfl 1 rfl ?_
        refine at_lt rfl (nI_toInt (by omega)) (tgt := 14) d_MO_in_2 (by decide) (fun c6 => ?_) (fun c6 => ?_)
        · skip
          refine aw_iconst (v := nI 0) d_MO_in_14 (by decide) ?_
          refine aw_zret (Or.inl rfl) d_MO_in_15 rfl (by decide) (by decide) (ab_go1 ?_)
          refine aw_if_neN (tgt := 37) d_MO_told_27 (by decide) (by omega) (fun c7 => ?_) (fun c7 => ?_)
          · skip
            exact absurd c7 (by decide)
          · skip
            refine aw_aload_n d_MO_told_30 rfl 0 rfl ?_
            refine aw_iconst (v := nI 2) d_MO_told_31 (by decide) ?_
            refine aw_callV (K' := k_MO_refuse) (As := [.int (nI (2))]) (rest := []) (b := 57) d_MO_told_32 rfl rfl rfl cs_MO_58 rfl (Nat.le_of_ble_eq_true rfl) (Nat.le_of_ble_eq_true rfl) (by decide) (by decide) (d' := 0) (w' := 0) (by decide) (by decide) ?_
            show AW _ _ _ _ _ _ _ [(0, .ref (57)), (1, .int (nI (2)))] _ _ _ _ _
            refine aw_aload_n d_MO_refuse_0 rfl 0 rfl ?_
            refine aw_iload_n d_MO_refuse_1 rfl 1 rfl ?_
            refine aw_putI (ic := 57) (ci := 6) (k := 0) d_MO_refuse_2 rfl rfl (by decide) rfl rfl rfl mw_775 ?_
            refine aw_iconst (v := nI 0) d_MO_refuse_5 (by decide) ?_
            refine aw_iret d_MO_refuse_6 rfl (by decide) (by decide) (ab_go1 ?_)
            refine aw_i2d d_MO_told_35 ?_
            refine aw_dret d_MO_told_36 rfl (by decide) (by decide) ?_
            first | exact hQ | (exfalso; omega)
        · skip
          refine aw_iload_n d_MO_in_5 rfl 0 rfl ?_
          refine aw_iload_n d_MO_in_6 rfl 2 rfl ?_
          refine at_gt rfl (nI_toInt (by omega)) (tgt := 14) d_MO_in_7 (by decide) (fun c8 => ?_) (fun c8 => ?_)
          · skip
            refine aw_iconst (v := nI 0) d_MO_in_14 (by decide) ?_
            refine aw_zret (Or.inl rfl) d_MO_in_15 rfl (by decide) (by decide) (ab_go1 ?_)
            refine aw_if_neN (tgt := 37) d_MO_told_27 (by decide) (by omega) (fun c9 => ?_) (fun c9 => ?_)
            · skip
              exact absurd c9 (by decide)
            · skip
              refine aw_aload_n d_MO_told_30 rfl 0 rfl ?_
              refine aw_iconst (v := nI 2) d_MO_told_31 (by decide) ?_
              refine aw_callV (K' := k_MO_refuse) (As := [.int (nI (2))]) (rest := []) (b := 57) d_MO_told_32 rfl rfl rfl cs_MO_58 rfl (Nat.le_of_ble_eq_true rfl) (Nat.le_of_ble_eq_true rfl) (by decide) (by decide) (d' := 0) (w' := 0) (by decide) (by decide) ?_
              show AW _ _ _ _ _ _ _ [(0, .ref (57)), (1, .int (nI (2)))] _ _ _ _ _
              refine aw_aload_n d_MO_refuse_0 rfl 0 rfl ?_
              refine aw_iload_n d_MO_refuse_1 rfl 1 rfl ?_
              refine aw_putI (ic := 57) (ci := 6) (k := 0) d_MO_refuse_2 rfl rfl (by decide) rfl rfl rfl mw_775 ?_
              refine aw_iconst (v := nI 0) d_MO_refuse_5 (by decide) ?_
              refine aw_iret d_MO_refuse_6 rfl (by decide) (by decide) (ab_go1 ?_)
              refine aw_i2d d_MO_told_35 ?_
              refine aw_dret d_MO_told_36 rfl (by decide) (by decide) ?_
              first | exact hQ | (exfalso; omega)
          · skip
            refine aw_iconst (v := nI 1) d_MO_in_10 (by decide) ?_
            refine aw_goto (tgt := 15) d_MO_in_11 (by decide) ?_
            refine aw_zret (Or.inr rfl) d_MO_in_15 rfl (by decide) (by decide) (ab_go1 ?_)
            refine aw_if_neN (tgt := 37) d_MO_told_27 (by decide) (by omega) (fun c10 => ?_) (fun c10 => ?_)
            · skip
              exfalso; omega
            · skip
              exact absurd c10 (by decide)
      · skip
        exact absurd c5 (by decide)
set_option maxRecDepth 4000 in
theorem R_told0 {l : Launch} {M : ab_M} {Q : ab_O → ab_M → Prop} {T : Qg} (wq : wQ T) (qr : iQR T M) {t : Nat} (ht : t < qn T) (hQ : Q (.inl (some (.double (FP.i2d (nI (qk T t)))))) (thrM 0 M)) : AW sys l ab_Zt k_MO_told 1 22 0 [(0, .ref (57)), (1, .int (nI (t))), (2, .int (nI (0)))] [] M 0 0 Q := by
  have h24 := wq.1
  refine aw_iload_n d_MO_told_0 rfl 1 rfl ?_
  refine aw_iconst (v := nI 0) d_MO_told_1 (by decide) ?_
  refine aw_aload_n d_MO_told_2 rfl 0 rfl ?_
  refine aw_get (ic := 57) (ci := 6) (k := 8) d_MO_told_3 rfl rfl (by decide) rfl mw_783 rfl ?_
  refine aw_eqi (nI (qn T)) qr.1 ?_
  refine aw_iconst (v := nI 1) d_MO_told_6 (by decide) ?_
  refine aw_isub d_MO_told_7 ?_
  refine aw_callS (K' := k_MO_in) (As := [.int (nI (t)), .int (nI (0)), .int (nI (qn T) - nI 1)]) (rest := []) d_MO_told_8 rfl cs_MO_54 rfl (Nat.le_of_ble_eq_true rfl) (Nat.le_of_ble_eq_true rfl) (by decide) (by decide) (d' := 0) (w' := 0) (by decide) (by decide) ?_
  show AW _ _ _ _ _ _ _ [(0, .int (nI (t))), (1, .int (nI (0))), (2, .int (nI (qn T) - nI 1))] _ _ _ _ _
  refine aw_iload_n d_MO_in_0 rfl 0 rfl ?_
  refine aw_iload_n d_MO_in_1 rfl 1 rfl ?_
  refine aw_icmp_ltN (tgt := 14) d_MO_in_2 (by decide) (by omega) (by omega) (fun c1 => ?_) (fun c1 => ?_)
  · skip
    refine aw_iconst (v := nI 0) d_MO_in_14 (by decide) ?_
    refine aw_zret (Or.inl rfl) d_MO_in_15 rfl (by decide) (by decide) (ab_go1 ?_)
    refine aw_if_neN (tgt := 21) d_MO_told_11 (by decide) (by omega) (fun c2 => ?_) (fun c2 => ?_)
    · skip
      exact absurd c2 (by decide)
    · skip
      exfalso; omega
  · skip
    refine aw_iload_n d_MO_in_5 rfl 0 rfl ?_
    refine aw_iload_n d_MO_in_6 rfl 2 rfl ?_
    refine at_gt (nI_toInt (by omega)) (nm_int (by omega)) (tgt := 14) d_MO_in_7 (by decide) (fun c3 => ?_) (fun c3 => ?_)
    · skip
      refine aw_iconst (v := nI 0) d_MO_in_14 (by decide) ?_
      refine aw_zret (Or.inl rfl) d_MO_in_15 rfl (by decide) (by decide) (ab_go1 ?_)
      refine aw_if_neN (tgt := 21) d_MO_told_11 (by decide) (by omega) (fun c4 => ?_) (fun c4 => ?_)
      · skip
        exact absurd c4 (by decide)
      · skip
        exfalso; omega
    · skip
      refine aw_iconst (v := nI 1) d_MO_in_10 (by decide) ?_
      refine aw_goto (tgt := 15) d_MO_in_11 (by decide) ?_
      refine aw_zret (Or.inr rfl) d_MO_in_15 rfl (by decide) (by decide) (ab_go1 ?_)
      refine aw_if_neN (tgt := 21) d_MO_told_11 (by decide) (by omega) (fun c5 => ?_) (fun c5 => ?_)
      · skip
        refine aw_iload_n d_MO_told_21 rfl 2 rfl ?_
        refine aw_iconst (v := nI 0) d_MO_told_22 (by decide) ?_
        refine aw_iconst (v := nI 2) d_MO_told_23 (by decide) ?_
        refine aw_callS (K' := k_MO_in) (As := [.int (nI (0)), .int (nI (0)), .int (nI (2))]) (rest := []) d_MO_told_24 rfl cs_MO_54 rfl (Nat.le_of_ble_eq_true rfl) (Nat.le_of_ble_eq_true rfl) (by decide) (by decide) (d' := 0) (w' := 0) (by decide) (by decide) ?_
        show AW _ _ _ _ _ _ _ [(0, .int (nI (0))), (1, .int (nI (0))), (2, .int (nI (2)))] _ _ _ _ _
        refine aw_iload_n d_MO_in_0 rfl 0 rfl ?_
        refine aw_iload_n d_MO_in_1 rfl 1 rfl ?_
        refine aw_icmp_ltN (tgt := 14) d_MO_in_2 (by decide) (by omega) (by omega) (fun c6 => ?_) (fun c6 => ?_)
        · skip
          exfalso; omega
        · skip
          refine aw_iload_n d_MO_in_5 rfl 0 rfl ?_
          refine aw_iload_n d_MO_in_6 rfl 2 rfl ?_
          refine aw_icmp_gtN (tgt := 14) d_MO_in_7 (by decide) (by omega) (by omega) (fun c7 => ?_) (fun c7 => ?_)
          · skip
            exfalso; omega
          · skip
            refine aw_iconst (v := nI 1) d_MO_in_10 (by decide) ?_
            refine aw_goto (tgt := 15) d_MO_in_11 (by decide) ?_
            refine aw_zret (Or.inr rfl) d_MO_in_15 rfl (by decide) (by decide) (ab_go1 ?_)
            refine aw_if_neN (tgt := 37) d_MO_told_27 (by decide) (by omega) (fun c8 => ?_) (fun c8 => ?_)
            · skip
              refine aw_aload_n d_MO_told_37 rfl 0 rfl ?_
              refine aw_iconst (v := nI 0) d_MO_told_38 (by decide) ?_
              refine aw_putI (ic := 57) (ci := 6) (k := 0) d_MO_told_39 rfl rfl (by decide) rfl rfl rfl mw_775 ?_
              refine aw_iload_n d_MO_told_42 rfl 2 rfl ?_
              refine aw_if_neN (tgt := 56) d_MO_told_43 (by decide) (by omega) (fun c9 => ?_) (fun c9 => ?_)
              · skip
                exact absurd c9 (by decide)
              · skip
                refine aw_aload_n d_MO_told_46 rfl 0 rfl ?_
                refine aw_get (ic := 57) (ci := 6) (k := 5) (v := .ref 61) d_MO_told_47 rfl rfl (by decide) rfl mw_780 rfl ?_
                refine aw_iload_n d_MO_told_50 rfl 1 rfl ?_
                refine aw_ialdN d_MO_told_51 rfl (by decide) (by omega) ?_
                refine aw_eqi (nI (qk T t)) (by repeat (first | rw [sI_ne (by omega)] | rw [sD_1]); exact (qr.2.1 _ (by omega))) ?_
                refine aw_i2d d_MO_told_52 ?_
                refine aw_goto (tgt := 77) d_MO_told_53 (by decide) ?_
                refine aw_dret d_MO_told_77 rfl (by decide) (by decide) ?_
                exact hQ
            · skip
              exact absurd c8 (by decide)
      · skip
        exact absurd c5 (by decide)
set_option maxRecDepth 4000 in
theorem R_told1 {l : Launch} {M : ab_M} {Q : ab_O → ab_M → Prop} {T : Qg} (wq : wQ T) (qr : iQR T M) {t : Nat} (ht : t < qn T) (hQ : Q (.inl (some (.double (FP.i2d (nI (qa T t)))))) (thrM 0 M)) : AW sys l ab_Zt k_MO_told 1 22 0 [(0, .ref (57)), (1, .int (nI (t))), (2, .int (nI (1)))] [] M 0 0 Q := by
  have h24 := wq.1
  refine aw_iload_n d_MO_told_0 rfl 1 rfl ?_
  refine aw_iconst (v := nI 0) d_MO_told_1 (by decide) ?_
  refine aw_aload_n d_MO_told_2 rfl 0 rfl ?_
  refine aw_get (ic := 57) (ci := 6) (k := 8) d_MO_told_3 rfl rfl (by decide) rfl mw_783 rfl ?_
  refine aw_eqi (nI (qn T)) qr.1 ?_
  refine aw_iconst (v := nI 1) d_MO_told_6 (by decide) ?_
  refine aw_isub d_MO_told_7 ?_
  refine aw_callS (K' := k_MO_in) (As := [.int (nI (t)), .int (nI (0)), .int (nI (qn T) - nI 1)]) (rest := []) d_MO_told_8 rfl cs_MO_54 rfl (Nat.le_of_ble_eq_true rfl) (Nat.le_of_ble_eq_true rfl) (by decide) (by decide) (d' := 0) (w' := 0) (by decide) (by decide) ?_
  show AW _ _ _ _ _ _ _ [(0, .int (nI (t))), (1, .int (nI (0))), (2, .int (nI (qn T) - nI 1))] _ _ _ _ _
  refine aw_iload_n d_MO_in_0 rfl 0 rfl ?_
  refine aw_iload_n d_MO_in_1 rfl 1 rfl ?_
  refine aw_icmp_ltN (tgt := 14) d_MO_in_2 (by decide) (by omega) (by omega) (fun c1 => ?_) (fun c1 => ?_)
  · skip
    refine aw_iconst (v := nI 0) d_MO_in_14 (by decide) ?_
    refine aw_zret (Or.inl rfl) d_MO_in_15 rfl (by decide) (by decide) (ab_go1 ?_)
    refine aw_if_neN (tgt := 21) d_MO_told_11 (by decide) (by omega) (fun c2 => ?_) (fun c2 => ?_)
    · skip
      exact absurd c2 (by decide)
    · skip
      exfalso; omega
  · skip
    refine aw_iload_n d_MO_in_5 rfl 0 rfl ?_
    refine aw_iload_n d_MO_in_6 rfl 2 rfl ?_
    refine at_gt (nI_toInt (by omega)) (nm_int (by omega)) (tgt := 14) d_MO_in_7 (by decide) (fun c3 => ?_) (fun c3 => ?_)
    · skip
      refine aw_iconst (v := nI 0) d_MO_in_14 (by decide) ?_
      refine aw_zret (Or.inl rfl) d_MO_in_15 rfl (by decide) (by decide) (ab_go1 ?_)
      refine aw_if_neN (tgt := 21) d_MO_told_11 (by decide) (by omega) (fun c4 => ?_) (fun c4 => ?_)
      · skip
        exact absurd c4 (by decide)
      · skip
        exfalso; omega
    · skip
      refine aw_iconst (v := nI 1) d_MO_in_10 (by decide) ?_
      refine aw_goto (tgt := 15) d_MO_in_11 (by decide) ?_
      refine aw_zret (Or.inr rfl) d_MO_in_15 rfl (by decide) (by decide) (ab_go1 ?_)
      refine aw_if_neN (tgt := 21) d_MO_told_11 (by decide) (by omega) (fun c5 => ?_) (fun c5 => ?_)
      · skip
        refine aw_iload_n d_MO_told_21 rfl 2 rfl ?_
        refine aw_iconst (v := nI 0) d_MO_told_22 (by decide) ?_
        refine aw_iconst (v := nI 2) d_MO_told_23 (by decide) ?_
        refine aw_callS (K' := k_MO_in) (As := [.int (nI (1)), .int (nI (0)), .int (nI (2))]) (rest := []) d_MO_told_24 rfl cs_MO_54 rfl (Nat.le_of_ble_eq_true rfl) (Nat.le_of_ble_eq_true rfl) (by decide) (by decide) (d' := 0) (w' := 0) (by decide) (by decide) ?_
        show AW _ _ _ _ _ _ _ [(0, .int (nI (1))), (1, .int (nI (0))), (2, .int (nI (2)))] _ _ _ _ _
        refine aw_iload_n d_MO_in_0 rfl 0 rfl ?_
        refine aw_iload_n d_MO_in_1 rfl 1 rfl ?_
        refine aw_icmp_ltN (tgt := 14) d_MO_in_2 (by decide) (by omega) (by omega) (fun c6 => ?_) (fun c6 => ?_)
        · skip
          exfalso; omega
        · skip
          refine aw_iload_n d_MO_in_5 rfl 0 rfl ?_
          refine aw_iload_n d_MO_in_6 rfl 2 rfl ?_
          refine aw_icmp_gtN (tgt := 14) d_MO_in_7 (by decide) (by omega) (by omega) (fun c7 => ?_) (fun c7 => ?_)
          · skip
            exfalso; omega
          · skip
            refine aw_iconst (v := nI 1) d_MO_in_10 (by decide) ?_
            refine aw_goto (tgt := 15) d_MO_in_11 (by decide) ?_
            refine aw_zret (Or.inr rfl) d_MO_in_15 rfl (by decide) (by decide) (ab_go1 ?_)
            refine aw_if_neN (tgt := 37) d_MO_told_27 (by decide) (by omega) (fun c8 => ?_) (fun c8 => ?_)
            · skip
              refine aw_aload_n d_MO_told_37 rfl 0 rfl ?_
              refine aw_iconst (v := nI 0) d_MO_told_38 (by decide) ?_
              refine aw_putI (ic := 57) (ci := 6) (k := 0) d_MO_told_39 rfl rfl (by decide) rfl rfl rfl mw_775 ?_
              refine aw_iload_n d_MO_told_42 rfl 2 rfl ?_
              refine aw_if_neN (tgt := 56) d_MO_told_43 (by decide) (by omega) (fun c9 => ?_) (fun c9 => ?_)
              · skip
                refine aw_iload_n d_MO_told_56 rfl 2 rfl ?_
                refine aw_iconst (v := nI 1) d_MO_told_57 (by decide) ?_
                refine aw_icmp_neN (tgt := 71) d_MO_told_58 (by decide) (by omega) (by omega) (fun c10 => ?_) (fun c10 => ?_)
                · skip
                  exfalso; omega
                · skip
                  refine aw_aload_n d_MO_told_61 rfl 0 rfl ?_
                  refine aw_get (ic := 57) (ci := 6) (k := 6) (v := .ref 62) d_MO_told_62 rfl rfl (by decide) rfl mw_781 rfl ?_
                  refine aw_iload_n d_MO_told_65 rfl 1 rfl ?_
                  refine aw_ialdN d_MO_told_66 rfl (by decide) (by omega) ?_
                  refine aw_eqi (nI (qa T t)) (by repeat (first | rw [sI_ne (by omega)] | rw [sD_1]); exact (qr.2.2.1 _ (by omega))) ?_
                  refine aw_i2d d_MO_told_67 ?_
                  refine aw_goto (tgt := 77) d_MO_told_68 (by decide) ?_
                  refine aw_dret d_MO_told_77 rfl (by decide) (by decide) ?_
                  exact hQ
              · skip
                exact absurd c9 (by decide)
            · skip
              exact absurd c8 (by decide)
      · skip
        exact absurd c5 (by decide)
set_option maxRecDepth 4000 in
theorem R_told2 {l : Launch} {M : ab_M} {Q : ab_O → ab_M → Prop} {T : Qg} (wq : wQ T) (qr : iQR T M) {t : Nat} (ht : t < qn T) (hQ : Q (.inl (some (.double (qw T t)))) (thrM 0 M)) : AW sys l ab_Zt k_MO_told 1 22 0 [(0, .ref (57)), (1, .int (nI (t))), (2, .int (nI (2)))] [] M 0 0 Q := by
  have h24 := wq.1
  refine aw_iload_n d_MO_told_0 rfl 1 rfl ?_
  refine aw_iconst (v := nI 0) d_MO_told_1 (by decide) ?_
  refine aw_aload_n d_MO_told_2 rfl 0 rfl ?_
  refine aw_get (ic := 57) (ci := 6) (k := 8) d_MO_told_3 rfl rfl (by decide) rfl mw_783 rfl ?_
  refine aw_eqi (nI (qn T)) qr.1 ?_
  refine aw_iconst (v := nI 1) d_MO_told_6 (by decide) ?_
  refine aw_isub d_MO_told_7 ?_
  refine aw_callS (K' := k_MO_in) (As := [.int (nI (t)), .int (nI (0)), .int (nI (qn T) - nI 1)]) (rest := []) d_MO_told_8 rfl cs_MO_54 rfl (Nat.le_of_ble_eq_true rfl) (Nat.le_of_ble_eq_true rfl) (by decide) (by decide) (d' := 0) (w' := 0) (by decide) (by decide) ?_
  show AW _ _ _ _ _ _ _ [(0, .int (nI (t))), (1, .int (nI (0))), (2, .int (nI (qn T) - nI 1))] _ _ _ _ _
  refine aw_iload_n d_MO_in_0 rfl 0 rfl ?_
  refine aw_iload_n d_MO_in_1 rfl 1 rfl ?_
  refine aw_icmp_ltN (tgt := 14) d_MO_in_2 (by decide) (by omega) (by omega) (fun c1 => ?_) (fun c1 => ?_)
  · skip
    refine aw_iconst (v := nI 0) d_MO_in_14 (by decide) ?_
    refine aw_zret (Or.inl rfl) d_MO_in_15 rfl (by decide) (by decide) (ab_go1 ?_)
    refine aw_if_neN (tgt := 21) d_MO_told_11 (by decide) (by omega) (fun c2 => ?_) (fun c2 => ?_)
    · skip
      exact absurd c2 (by decide)
    · skip
      exfalso; omega
  · skip
    refine aw_iload_n d_MO_in_5 rfl 0 rfl ?_
    refine aw_iload_n d_MO_in_6 rfl 2 rfl ?_
    refine at_gt (nI_toInt (by omega)) (nm_int (by omega)) (tgt := 14) d_MO_in_7 (by decide) (fun c3 => ?_) (fun c3 => ?_)
    · skip
      refine aw_iconst (v := nI 0) d_MO_in_14 (by decide) ?_
      refine aw_zret (Or.inl rfl) d_MO_in_15 rfl (by decide) (by decide) (ab_go1 ?_)
      refine aw_if_neN (tgt := 21) d_MO_told_11 (by decide) (by omega) (fun c4 => ?_) (fun c4 => ?_)
      · skip
        exact absurd c4 (by decide)
      · skip
        exfalso; omega
    · skip
      refine aw_iconst (v := nI 1) d_MO_in_10 (by decide) ?_
      refine aw_goto (tgt := 15) d_MO_in_11 (by decide) ?_
      refine aw_zret (Or.inr rfl) d_MO_in_15 rfl (by decide) (by decide) (ab_go1 ?_)
      refine aw_if_neN (tgt := 21) d_MO_told_11 (by decide) (by omega) (fun c5 => ?_) (fun c5 => ?_)
      · skip
        refine aw_iload_n d_MO_told_21 rfl 2 rfl ?_
        refine aw_iconst (v := nI 0) d_MO_told_22 (by decide) ?_
        refine aw_iconst (v := nI 2) d_MO_told_23 (by decide) ?_
        refine aw_callS (K' := k_MO_in) (As := [.int (nI (2)), .int (nI (0)), .int (nI (2))]) (rest := []) d_MO_told_24 rfl cs_MO_54 rfl (Nat.le_of_ble_eq_true rfl) (Nat.le_of_ble_eq_true rfl) (by decide) (by decide) (d' := 0) (w' := 0) (by decide) (by decide) ?_
        show AW _ _ _ _ _ _ _ [(0, .int (nI (2))), (1, .int (nI (0))), (2, .int (nI (2)))] _ _ _ _ _
        refine aw_iload_n d_MO_in_0 rfl 0 rfl ?_
        refine aw_iload_n d_MO_in_1 rfl 1 rfl ?_
        refine aw_icmp_ltN (tgt := 14) d_MO_in_2 (by decide) (by omega) (by omega) (fun c6 => ?_) (fun c6 => ?_)
        · skip
          exfalso; omega
        · skip
          refine aw_iload_n d_MO_in_5 rfl 0 rfl ?_
          refine aw_iload_n d_MO_in_6 rfl 2 rfl ?_
          refine aw_icmp_gtN (tgt := 14) d_MO_in_7 (by decide) (by omega) (by omega) (fun c7 => ?_) (fun c7 => ?_)
          · skip
            exfalso; omega
          · skip
            refine aw_iconst (v := nI 1) d_MO_in_10 (by decide) ?_
            refine aw_goto (tgt := 15) d_MO_in_11 (by decide) ?_
            refine aw_zret (Or.inr rfl) d_MO_in_15 rfl (by decide) (by decide) (ab_go1 ?_)
            refine aw_if_neN (tgt := 37) d_MO_told_27 (by decide) (by omega) (fun c8 => ?_) (fun c8 => ?_)
            · skip
              refine aw_aload_n d_MO_told_37 rfl 0 rfl ?_
              refine aw_iconst (v := nI 0) d_MO_told_38 (by decide) ?_
              refine aw_putI (ic := 57) (ci := 6) (k := 0) d_MO_told_39 rfl rfl (by decide) rfl rfl rfl mw_775 ?_
              refine aw_iload_n d_MO_told_42 rfl 2 rfl ?_
              refine aw_if_neN (tgt := 56) d_MO_told_43 (by decide) (by omega) (fun c9 => ?_) (fun c9 => ?_)
              · skip
                refine aw_iload_n d_MO_told_56 rfl 2 rfl ?_
                refine aw_iconst (v := nI 1) d_MO_told_57 (by decide) ?_
                refine aw_icmp_neN (tgt := 71) d_MO_told_58 (by decide) (by omega) (by omega) (fun c10 => ?_) (fun c10 => ?_)
                · skip
                  refine aw_aload_n d_MO_told_71 rfl 0 rfl ?_
                  refine aw_get (ic := 57) (ci := 6) (k := 7) (v := .ref 63) d_MO_told_72 rfl rfl (by decide) rfl mw_782 rfl ?_
                  refine aw_iload_n d_MO_told_75 rfl 1 rfl ?_
                  refine aw_daldN d_MO_told_76 rfl (by decide) (by omega) ?_
                  refine aw_eqd (qw T t) (by repeat (first | rw [sD_ne (by omega)] | rw [sI_2]); exact (qr.2.2.2 _ (by omega))) ?_
                  refine aw_dret d_MO_told_77 rfl (by decide) (by decide) ?_
                  exact hQ
                · skip
                  exfalso; omega
              · skip
                exact absurd c9 (by decide)
            · skip
              exact absurd c8 (by decide)
      · skip
        exact absurd c5 (by decide)
set_option maxRecDepth 4000 in
theorem R_count_bad {l : Launch} {M : ab_M} {Q : ab_O → ab_M → Prop} {D : Dg} {T : Qg} {R : Rg} (wd : wD D) (dr : iDR D M) (wq : wQ T) (qr : iQR T M) (hn : rn R ≤ 12) (ho : ro R ≤ 12) (rr : iRR R M) {x : Int32} (h0 : x.toInt < 0 ∨ 4 < x.toInt) (h1 : x.toInt < 10 ∨ 21 < x.toInt) (h2 : x.toInt < 30 ∨ 45 < x.toInt) (hQ : Q (.inl (some (.int (nI 0)))) (ab_sI (thrM 0 M) 57 0 (nI 1))) : AW sys l ab_Zt k_MO_count 1 24 0 [(0, .ref (57)), (1, .int (x))] [] M 0 0 Q := by
  have h12 := wd.1
  have h24 := wq.1
  have hal := all_le wd
  refine aw_aload_n d_MO_count_0 rfl 0 rfl ?_
  refine aw_iconst (v := nI 0) d_MO_count_1 (by decide) ?_
  refine aw_putI (ic := 57) (ci := 6) (k := 0) d_MO_count_2 rfl rfl (by decide) rfl rfl rfl mw_775 ?_
  refine aw_iload_n d_MO_count_5 rfl 1 rfl ?_
  refine aw_bipush (v := nI 10) d_MO_count_6 (by decide) ?_
  refine aw_bipush (v := nI 21) d_MO_count_8 (by decide) ?_
  refine aw_callS (K' := k_MO_in) (As := [.int (x), .int (nI (10)), .int (nI (21))]) (rest := []) d_MO_count_10 rfl cs_MO_54 rfl (Nat.le_of_ble_eq_true rfl) (Nat.le_of_ble_eq_true rfl) (by decide) (by decide) (d' := 0) (w' := 0) (by decide) (by decide) ?_
  show AW _ _ _ _ _ _ _ [(0, .int (x)), (1, .int (nI (10))), (2, .int (nI (21)))] _ _ _ _ _
  refine aw_iload_n d_MO_in_0 rfl 0 rfl ?_
  refine aw_iload_n d_MO_in_1 rfl 1 rfl ?_
  refine at_lt rfl (nI_toInt (by omega)) (tgt := 14) d_MO_in_2 (by decide) (fun c1 => ?_) (fun c1 => ?_)
  · skip
    refine aw_iconst (v := nI 0) d_MO_in_14 (by decide) ?_
    refine aw_zret (Or.inl rfl) d_MO_in_15 rfl (by decide) (by decide) (ab_go1 ?_)
    refine aw_if_eqN (tgt := 41) d_MO_count_13 (by decide) (by omega) (fun c2 => ?_) (fun c2 => ?_)
    · skip
      refine aw_iload_n d_MO_count_41 rfl 1 rfl ?_
      refine aw_bipush (v := nI 30) d_MO_count_42 (by decide) ?_
      refine aw_bipush (v := nI 45) d_MO_count_44 (by decide) ?_
      refine aw_callS (K' := k_MO_in) (As := [.int (x), .int (nI (30)), .int (nI (45))]) (rest := []) d_MO_count_46 rfl cs_MO_54 rfl (Nat.le_of_ble_eq_true rfl) (Nat.le_of_ble_eq_true rfl) (by decide) (by decide) (d' := 0) (w' := 0) (by decide) (by decide) ?_
      show AW _ _ _ _ _ _ _ [(0, .int (x)), (1, .int (nI (30))), (2, .int (nI (45)))] _ _ _ _ _
      refine aw_iload_n d_MO_in_0 rfl 0 rfl ?_
      refine aw_iload_n d_MO_in_1 rfl 1 rfl ?_
      refine at_lt rfl (nI_toInt (by omega)) (tgt := 14) d_MO_in_2 (by decide) (fun c3 => ?_) (fun c3 => ?_)
      · skip
        refine aw_iconst (v := nI 0) d_MO_in_14 (by decide) ?_
        refine aw_zret (Or.inl rfl) d_MO_in_15 rfl (by decide) (by decide) (ab_go1 ?_)
        refine aw_if_eqN (tgt := 87) d_MO_count_49 (by decide) (by omega) (fun c4 => ?_) (fun c4 => ?_)
        · skip
          refine aw_iload_n d_MO_count_87 rfl 1 rfl ?_
          by_cases c5 : (x).toInt = 0
          · refine aw_tabI 124 d_MO_count_88 (by rw [c5]; exact Or.inr ⟨_, by decide, by decide, rfl, by decide⟩) ?_
            exfalso; omega
          by_cases c6 : (x).toInt = 1
          · refine aw_tabI 129 d_MO_count_88 (by rw [c6]; exact Or.inr ⟨_, by decide, by decide, rfl, by decide⟩) ?_
            exfalso; omega
          by_cases c7 : (x).toInt = 2
          · refine aw_tabI 134 d_MO_count_88 (by rw [c7]; exact Or.inr ⟨_, by decide, by decide, rfl, by decide⟩) ?_
            exfalso; omega
          by_cases c8 : (x).toInt = 3
          · refine aw_tabI 139 d_MO_count_88 (by rw [c8]; exact Or.inr ⟨_, by decide, by decide, rfl, by decide⟩) ?_
            exfalso; omega
          by_cases c9 : (x).toInt = 4
          · refine aw_tabI 144 d_MO_count_88 (by rw [c9]; exact Or.inr ⟨_, by decide, by decide, rfl, by decide⟩) ?_
            exfalso; omega
          refine aw_tabI 149 d_MO_count_88 (Or.inl ⟨by omega, by decide⟩) ?_
          refine aw_aload_n d_MO_count_149 rfl 0 rfl ?_
          refine aw_iconst (v := nI 1) d_MO_count_150 (by decide) ?_
          refine aw_callV (K' := k_MO_refuse) (As := [.int (nI (1))]) (rest := []) (b := 57) d_MO_count_151 rfl rfl rfl cs_MO_58 rfl (Nat.le_of_ble_eq_true rfl) (Nat.le_of_ble_eq_true rfl) (by decide) (by decide) (d' := 0) (w' := 0) (by decide) (by decide) ?_
          show AW _ _ _ _ _ _ _ [(0, .ref (57)), (1, .int (nI (1)))] _ _ _ _ _
          refine aw_aload_n d_MO_refuse_0 rfl 0 rfl ?_
          refine aw_iload_n d_MO_refuse_1 rfl 1 rfl ?_
          refine aw_putI (ic := 57) (ci := 6) (k := 0) d_MO_refuse_2 rfl rfl (by decide) rfl rfl rfl mw_775 ?_
          refine aw_iconst (v := nI 0) d_MO_refuse_5 (by decide) ?_
          refine aw_iret d_MO_refuse_6 rfl (by decide) (by decide) (ab_go1 ?_)
          refine aw_iret d_MO_count_154 rfl (by decide) (by decide) ?_
          first | exact hQ | (exfalso; omega)
        · skip
          exact absurd c4 (by decide)
      · skip
        refine aw_iload_n d_MO_in_5 rfl 0 rfl ?_
        refine aw_iload_n d_MO_in_6 rfl 2 rfl ?_
        refine at_gt rfl (nI_toInt (by omega)) (tgt := 14) d_MO_in_7 (by decide) (fun c10 => ?_) (fun c10 => ?_)
        · skip
          refine aw_iconst (v := nI 0) d_MO_in_14 (by decide) ?_
          refine aw_zret (Or.inl rfl) d_MO_in_15 rfl (by decide) (by decide) (ab_go1 ?_)
          refine aw_if_eqN (tgt := 87) d_MO_count_49 (by decide) (by omega) (fun c11 => ?_) (fun c11 => ?_)
          · skip
            refine aw_iload_n d_MO_count_87 rfl 1 rfl ?_
            by_cases c12 : (x).toInt = 0
            · refine aw_tabI 124 d_MO_count_88 (by rw [c12]; exact Or.inr ⟨_, by decide, by decide, rfl, by decide⟩) ?_
              exfalso; omega
            by_cases c13 : (x).toInt = 1
            · refine aw_tabI 129 d_MO_count_88 (by rw [c13]; exact Or.inr ⟨_, by decide, by decide, rfl, by decide⟩) ?_
              exfalso; omega
            by_cases c14 : (x).toInt = 2
            · refine aw_tabI 134 d_MO_count_88 (by rw [c14]; exact Or.inr ⟨_, by decide, by decide, rfl, by decide⟩) ?_
              exfalso; omega
            by_cases c15 : (x).toInt = 3
            · refine aw_tabI 139 d_MO_count_88 (by rw [c15]; exact Or.inr ⟨_, by decide, by decide, rfl, by decide⟩) ?_
              exfalso; omega
            by_cases c16 : (x).toInt = 4
            · refine aw_tabI 144 d_MO_count_88 (by rw [c16]; exact Or.inr ⟨_, by decide, by decide, rfl, by decide⟩) ?_
              exfalso; omega
            refine aw_tabI 149 d_MO_count_88 (Or.inl ⟨by omega, by decide⟩) ?_
            refine aw_aload_n d_MO_count_149 rfl 0 rfl ?_
            refine aw_iconst (v := nI 1) d_MO_count_150 (by decide) ?_
            refine aw_callV (K' := k_MO_refuse) (As := [.int (nI (1))]) (rest := []) (b := 57) d_MO_count_151 rfl rfl rfl cs_MO_58 rfl (Nat.le_of_ble_eq_true rfl) (Nat.le_of_ble_eq_true rfl) (by decide) (by decide) (d' := 0) (w' := 0) (by decide) (by decide) ?_
            show AW _ _ _ _ _ _ _ [(0, .ref (57)), (1, .int (nI (1)))] _ _ _ _ _
            refine aw_aload_n d_MO_refuse_0 rfl 0 rfl ?_
            refine aw_iload_n d_MO_refuse_1 rfl 1 rfl ?_
            refine aw_putI (ic := 57) (ci := 6) (k := 0) d_MO_refuse_2 rfl rfl (by decide) rfl rfl rfl mw_775 ?_
            refine aw_iconst (v := nI 0) d_MO_refuse_5 (by decide) ?_
            refine aw_iret d_MO_refuse_6 rfl (by decide) (by decide) (ab_go1 ?_)
            refine aw_iret d_MO_count_154 rfl (by decide) (by decide) ?_
            first | exact hQ | (exfalso; omega)
          · skip
            exact absurd c11 (by decide)
        · skip
          refine aw_iconst (v := nI 1) d_MO_in_10 (by decide) ?_
          refine aw_goto (tgt := 15) d_MO_in_11 (by decide) ?_
          refine aw_zret (Or.inr rfl) d_MO_in_15 rfl (by decide) (by decide) (ab_go1 ?_)
          refine aw_if_eqN (tgt := 87) d_MO_count_49 (by decide) (by omega) (fun c17 => ?_) (fun c17 => ?_)
          · skip
            exact absurd c17 (by decide)
          · skip
            exfalso; omega
    · skip
      exact absurd c2 (by decide)
  · skip
    refine aw_iload_n d_MO_in_5 rfl 0 rfl ?_
    refine aw_iload_n d_MO_in_6 rfl 2 rfl ?_
    refine at_gt rfl (nI_toInt (by omega)) (tgt := 14) d_MO_in_7 (by decide) (fun c18 => ?_) (fun c18 => ?_)
    · skip
      refine aw_iconst (v := nI 0) d_MO_in_14 (by decide) ?_
      refine aw_zret (Or.inl rfl) d_MO_in_15 rfl (by decide) (by decide) (ab_go1 ?_)
      refine aw_if_eqN (tgt := 41) d_MO_count_13 (by decide) (by omega) (fun c19 => ?_) (fun c19 => ?_)
      · skip
        refine aw_iload_n d_MO_count_41 rfl 1 rfl ?_
        refine aw_bipush (v := nI 30) d_MO_count_42 (by decide) ?_
        refine aw_bipush (v := nI 45) d_MO_count_44 (by decide) ?_
        refine aw_callS (K' := k_MO_in) (As := [.int (x), .int (nI (30)), .int (nI (45))]) (rest := []) d_MO_count_46 rfl cs_MO_54 rfl (Nat.le_of_ble_eq_true rfl) (Nat.le_of_ble_eq_true rfl) (by decide) (by decide) (d' := 0) (w' := 0) (by decide) (by decide) ?_
        show AW _ _ _ _ _ _ _ [(0, .int (x)), (1, .int (nI (30))), (2, .int (nI (45)))] _ _ _ _ _
        refine aw_iload_n d_MO_in_0 rfl 0 rfl ?_
        refine aw_iload_n d_MO_in_1 rfl 1 rfl ?_
        refine at_lt rfl (nI_toInt (by omega)) (tgt := 14) d_MO_in_2 (by decide) (fun c20 => ?_) (fun c20 => ?_)
        · skip
          refine aw_iconst (v := nI 0) d_MO_in_14 (by decide) ?_
          refine aw_zret (Or.inl rfl) d_MO_in_15 rfl (by decide) (by decide) (ab_go1 ?_)
          refine aw_if_eqN (tgt := 87) d_MO_count_49 (by decide) (by omega) (fun c21 => ?_) (fun c21 => ?_)
          · skip
            refine aw_iload_n d_MO_count_87 rfl 1 rfl ?_
            by_cases c22 : (x).toInt = 0
            · refine aw_tabI 124 d_MO_count_88 (by rw [c22]; exact Or.inr ⟨_, by decide, by decide, rfl, by decide⟩) ?_
              exfalso; omega
            by_cases c23 : (x).toInt = 1
            · refine aw_tabI 129 d_MO_count_88 (by rw [c23]; exact Or.inr ⟨_, by decide, by decide, rfl, by decide⟩) ?_
              exfalso; omega
            by_cases c24 : (x).toInt = 2
            · refine aw_tabI 134 d_MO_count_88 (by rw [c24]; exact Or.inr ⟨_, by decide, by decide, rfl, by decide⟩) ?_
              exfalso; omega
            by_cases c25 : (x).toInt = 3
            · refine aw_tabI 139 d_MO_count_88 (by rw [c25]; exact Or.inr ⟨_, by decide, by decide, rfl, by decide⟩) ?_
              exfalso; omega
            by_cases c26 : (x).toInt = 4
            · refine aw_tabI 144 d_MO_count_88 (by rw [c26]; exact Or.inr ⟨_, by decide, by decide, rfl, by decide⟩) ?_
              exfalso; omega
            refine aw_tabI 149 d_MO_count_88 (Or.inl ⟨by omega, by decide⟩) ?_
            refine aw_aload_n d_MO_count_149 rfl 0 rfl ?_
            refine aw_iconst (v := nI 1) d_MO_count_150 (by decide) ?_
            refine aw_callV (K' := k_MO_refuse) (As := [.int (nI (1))]) (rest := []) (b := 57) d_MO_count_151 rfl rfl rfl cs_MO_58 rfl (Nat.le_of_ble_eq_true rfl) (Nat.le_of_ble_eq_true rfl) (by decide) (by decide) (d' := 0) (w' := 0) (by decide) (by decide) ?_
            show AW _ _ _ _ _ _ _ [(0, .ref (57)), (1, .int (nI (1)))] _ _ _ _ _
            refine aw_aload_n d_MO_refuse_0 rfl 0 rfl ?_
            refine aw_iload_n d_MO_refuse_1 rfl 1 rfl ?_
            refine aw_putI (ic := 57) (ci := 6) (k := 0) d_MO_refuse_2 rfl rfl (by decide) rfl rfl rfl mw_775 ?_
            refine aw_iconst (v := nI 0) d_MO_refuse_5 (by decide) ?_
            refine aw_iret d_MO_refuse_6 rfl (by decide) (by decide) (ab_go1 ?_)
            refine aw_iret d_MO_count_154 rfl (by decide) (by decide) ?_
            first | exact hQ | (exfalso; omega)
          · skip
            exact absurd c21 (by decide)
        · skip
          refine aw_iload_n d_MO_in_5 rfl 0 rfl ?_
          refine aw_iload_n d_MO_in_6 rfl 2 rfl ?_
          refine at_gt rfl (nI_toInt (by omega)) (tgt := 14) d_MO_in_7 (by decide) (fun c27 => ?_) (fun c27 => ?_)
          · skip
            refine aw_iconst (v := nI 0) d_MO_in_14 (by decide) ?_
            refine aw_zret (Or.inl rfl) d_MO_in_15 rfl (by decide) (by decide) (ab_go1 ?_)
            refine aw_if_eqN (tgt := 87) d_MO_count_49 (by decide) (by omega) (fun c28 => ?_) (fun c28 => ?_)
            · skip
              refine aw_iload_n d_MO_count_87 rfl 1 rfl ?_
              by_cases c29 : (x).toInt = 0
              · refine aw_tabI 124 d_MO_count_88 (by rw [c29]; exact Or.inr ⟨_, by decide, by decide, rfl, by decide⟩) ?_
                exfalso; omega
              by_cases c30 : (x).toInt = 1
              · refine aw_tabI 129 d_MO_count_88 (by rw [c30]; exact Or.inr ⟨_, by decide, by decide, rfl, by decide⟩) ?_
                exfalso; omega
              by_cases c31 : (x).toInt = 2
              · refine aw_tabI 134 d_MO_count_88 (by rw [c31]; exact Or.inr ⟨_, by decide, by decide, rfl, by decide⟩) ?_
                exfalso; omega
              by_cases c32 : (x).toInt = 3
              · refine aw_tabI 139 d_MO_count_88 (by rw [c32]; exact Or.inr ⟨_, by decide, by decide, rfl, by decide⟩) ?_
                exfalso; omega
              by_cases c33 : (x).toInt = 4
              · refine aw_tabI 144 d_MO_count_88 (by rw [c33]; exact Or.inr ⟨_, by decide, by decide, rfl, by decide⟩) ?_
                exfalso; omega
              refine aw_tabI 149 d_MO_count_88 (Or.inl ⟨by omega, by decide⟩) ?_
              refine aw_aload_n d_MO_count_149 rfl 0 rfl ?_
              refine aw_iconst (v := nI 1) d_MO_count_150 (by decide) ?_
              refine aw_callV (K' := k_MO_refuse) (As := [.int (nI (1))]) (rest := []) (b := 57) d_MO_count_151 rfl rfl rfl cs_MO_58 rfl (Nat.le_of_ble_eq_true rfl) (Nat.le_of_ble_eq_true rfl) (by decide) (by decide) (d' := 0) (w' := 0) (by decide) (by decide) ?_
              show AW _ _ _ _ _ _ _ [(0, .ref (57)), (1, .int (nI (1)))] _ _ _ _ _
              refine aw_aload_n d_MO_refuse_0 rfl 0 rfl ?_
              refine aw_iload_n d_MO_refuse_1 rfl 1 rfl ?_
              refine aw_putI (ic := 57) (ci := 6) (k := 0) d_MO_refuse_2 rfl rfl (by decide) rfl rfl rfl mw_775 ?_
              refine aw_iconst (v := nI 0) d_MO_refuse_5 (by decide) ?_
              refine aw_iret d_MO_refuse_6 rfl (by decide) (by decide) (ab_go1 ?_)
              refine aw_iret d_MO_count_154 rfl (by decide) (by decide) ?_
              first | exact hQ | (exfalso; omega)
            · skip
              exact absurd c28 (by decide)
          · skip
            refine aw_iconst (v := nI 1) d_MO_in_10 (by decide) ?_
            refine aw_goto (tgt := 15) d_MO_in_11 (by decide) ?_
            refine aw_zret (Or.inr rfl) d_MO_in_15 rfl (by decide) (by decide) (ab_go1 ?_)
            refine aw_if_eqN (tgt := 87) d_MO_count_49 (by decide) (by omega) (fun c34 => ?_) (fun c34 => ?_)
            · skip
              exact absurd c34 (by decide)
            · skip
              exfalso; omega
      · skip
        exact absurd c19 (by decide)
    · skip
      refine aw_iconst (v := nI 1) d_MO_in_10 (by decide) ?_
      refine aw_goto (tgt := 15) d_MO_in_11 (by decide) ?_
      refine aw_zret (Or.inr rfl) d_MO_in_15 rfl (by decide) (by decide) (ab_go1 ?_)
      refine aw_if_eqN (tgt := 41) d_MO_count_13 (by decide) (by omega) (fun c35 => ?_) (fun c35 => ?_)
      · skip
        exact absurd c35 (by decide)
      · skip
        exfalso; omega
set_option maxRecDepth 4000 in
theorem R_count_len {l : Launch} {M : ab_M} {Q : ab_O → ab_M → Prop} {D : Dg} {T : Qg} {R : Rg} (wd : wD D) (dr : iDR D M) (wq : wQ T) (qr : iQR T M) (hn : rn R ≤ 12) (ho : ro R ≤ 12) (rr : iRR R M) {d : Nat} (hd : d < 12) (hQ : Q (.inl (some (.int (nI (dl D d))))) (thrM 0 M)) : AW sys l ab_Zt k_MO_count 1 24 0 [(0, .ref (57)), (1, .int (nI (10 + d)))] [] M 0 0 Q := by
  have h12 := wd.1
  have h24 := wq.1
  have hal := all_le wd
  refine aw_aload_n d_MO_count_0 rfl 0 rfl ?_
  refine aw_iconst (v := nI 0) d_MO_count_1 (by decide) ?_
  refine aw_putI (ic := 57) (ci := 6) (k := 0) d_MO_count_2 rfl rfl (by decide) rfl rfl rfl mw_775 ?_
  refine aw_iload_n d_MO_count_5 rfl 1 rfl ?_
  refine aw_bipush (v := nI 10) d_MO_count_6 (by decide) ?_
  refine aw_bipush (v := nI 21) d_MO_count_8 (by decide) ?_
  refine aw_callS (K' := k_MO_in) (As := [.int (nI (10 + d)), .int (nI (10)), .int (nI (21))]) (rest := []) d_MO_count_10 rfl cs_MO_54 rfl (Nat.le_of_ble_eq_true rfl) (Nat.le_of_ble_eq_true rfl) (by decide) (by decide) (d' := 0) (w' := 0) (by decide) (by decide) ?_
  show AW _ _ _ _ _ _ _ [(0, .int (nI (10 + d))), (1, .int (nI (10))), (2, .int (nI (21)))] _ _ _ _ _
  refine aw_iload_n d_MO_in_0 rfl 0 rfl ?_
  refine aw_iload_n d_MO_in_1 rfl 1 rfl ?_
  refine aw_icmp_ltN (tgt := 14) d_MO_in_2 (by decide) (by omega) (by omega) (fun c1 => ?_) (fun c1 => ?_)
  · skip
    refine aw_iconst (v := nI 0) d_MO_in_14 (by decide) ?_
    refine aw_zret (Or.inl rfl) d_MO_in_15 rfl (by decide) (by decide) (ab_go1 ?_)
    refine aw_if_eqN (tgt := 41) d_MO_count_13 (by decide) (by omega) (fun c2 => ?_) (fun c2 => ?_)
    · skip
      exfalso; omega
    · skip
      exact absurd c2 (by decide)
  · skip
    refine aw_iload_n d_MO_in_5 rfl 0 rfl ?_
    refine aw_iload_n d_MO_in_6 rfl 2 rfl ?_
    refine aw_icmp_gtN (tgt := 14) d_MO_in_7 (by decide) (by omega) (by omega) (fun c3 => ?_) (fun c3 => ?_)
    · skip
      refine aw_iconst (v := nI 0) d_MO_in_14 (by decide) ?_
      refine aw_zret (Or.inl rfl) d_MO_in_15 rfl (by decide) (by decide) (ab_go1 ?_)
      refine aw_if_eqN (tgt := 41) d_MO_count_13 (by decide) (by omega) (fun c4 => ?_) (fun c4 => ?_)
      · skip
        exfalso; omega
      · skip
        exact absurd c4 (by decide)
    · skip
      refine aw_iconst (v := nI 1) d_MO_in_10 (by decide) ?_
      refine aw_goto (tgt := 15) d_MO_in_11 (by decide) ?_
      refine aw_zret (Or.inr rfl) d_MO_in_15 rfl (by decide) (by decide) (ab_go1 ?_)
      refine aw_if_eqN (tgt := 41) d_MO_count_13 (by decide) (by omega) (fun c5 => ?_) (fun c5 => ?_)
      · skip
        exact absurd c5 (by decide)
      · skip
        refine aw_iload_n d_MO_count_16 rfl 1 rfl ?_
        refine aw_bipush (v := nI 10) d_MO_count_17 (by decide) ?_
        refine aw_isubN d_MO_count_19 (by omega) ?_
        refine aw_aload_n d_MO_count_20 rfl 0 rfl ?_
        refine aw_get (ic := 57) (ci := 6) (k := 4) d_MO_count_21 rfl rfl (by decide) rfl mw_779 rfl ?_
        refine aw_eqi (nI (dn D)) (by repeat (first | rw [sI_ne (by omega)] | rw [sD_1]); exact dr.1) ?_
        refine aw_icmp_geN (tgt := 39) d_MO_count_24 (by decide) (by omega) (by omega) (fun c6 => ?_) (fun c6 => ?_)
        · skip
          refine aw_iconst (v := nI 0) d_MO_count_39 (by decide) ?_
          refine aw_iret d_MO_count_40 rfl (by decide) (by decide) ?_
          first | exact q_n (by rw [show 10 + d - 10 = d by omega]) hQ | exact q_n (by rw [wd.2.2.1 d (by omega)]) hQ
        · skip
          refine aw_aload_n d_MO_count_27 rfl 0 rfl ?_
          refine aw_get (ic := 57) (ci := 6) (k := 2) (v := .ref 59) d_MO_count_28 rfl rfl (by decide) rfl mw_777 rfl ?_
          refine aw_iload_n d_MO_count_31 rfl 1 rfl ?_
          refine aw_bipush (v := nI 10) d_MO_count_32 (by decide) ?_
          refine aw_isubN d_MO_count_34 (by omega) ?_
          refine aw_ialdN d_MO_count_35 rfl (by decide) (by omega) ?_
          refine aw_eqi (nI (dl D ((10 + d) - 10))) (by repeat (first | rw [sI_ne (by omega)] | rw [sD_1]); exact (dr.2.1 _ (by omega))) ?_
          refine aw_goto (tgt := 40) d_MO_count_36 (by decide) ?_
          refine aw_iret d_MO_count_40 rfl (by decide) (by decide) ?_
          first | exact q_n (by rw [show 10 + d - 10 = d by omega]) hQ | exact q_n (by rw [wd.2.2.1 d (by omega)]) hQ
set_option maxRecDepth 4000 in
theorem R_cw_loop {l : Launch} {M : ab_M} {Q : ab_O → ab_M → Prop} {D : Dg} {T : Qg} {R : Rg} (wd : wD D) (dr : iDR D M) (wq : wQ T) (qr : iQR T M) (hn : rn R ≤ 12) (ho : ro R ≤ 12) (rr : iRR R M) {v : Nat} (hv : v < 16) (hQ : Q (.inl (some (.int (nI (ps (fun e => cn (fw D e v) (dl D e)) (dn D)))))) (thrM 0 M)) : ∀ (mm : Nat) (e : Nat), 12 - e = mm → (he : e ≤ dn D) → AW sys l ab_Zt k_MO_count 1 24 56 [(3, .int (nI (e))), (2, .int (nI (ps (fun e => cn (fw D e v) (dl D e)) e))), (0, .ref (57)), (1, .int (nI (30 + v)))] [] (thrM 0 M) 0 0 Q := by
  intro mm
  induction mm using Nat.strongRecOn with
  | ind mm ih =>
    intro e hk he
    have h12 := wd.1
    have h24 := wq.1
    have hal := all_le wd
    have dr1 := frB_dr (thr_fr 0 M) dr
    refine aw_iload_n d_MO_count_56 rfl 0 rfl ?_
    refine aw_aload_n d_MO_count_57 rfl 2 rfl ?_
    refine aw_get (ic := 57) (ci := 6) (k := 4) d_MO_count_58 rfl rfl (by decide) rfl mw_779 rfl ?_
    refine aw_eqi (nI (dn D)) dr1.1 ?_
    refine aw_icmp_geN (tgt := 85) d_MO_count_61 (by decide) (by omega) (by omega) (fun c1 => ?_) (fun c1 => ?_)
    · skip
      refine aw_iload_n d_MO_count_85 rfl 1 rfl ?_
      refine aw_iret d_MO_count_86 rfl (by decide) (by decide) ?_
      exact q_n (by rw [show e = dn D by omega]) hQ
    · skip
      refine aw_iload_n d_MO_count_64 rfl 1 rfl ?_
      refine aw_aload_n d_MO_count_65 rfl 2 rfl ?_
      refine aw_iload_n d_MO_count_66 rfl 0 rfl ?_
      refine aw_iload_n d_MO_count_67 rfl 3 rfl ?_
      refine aw_bipush (v := nI 30) d_MO_count_68 (by decide) ?_
      refine aw_isubN d_MO_count_70 (by omega) ?_
      refine aw_callV (K' := k_MO_places) (As := [.int (nI (e)), .int (nI ((30 + v) - 30))]) (rest := [.int (nI (ps (fun e => cn (fw D e v) (dl D e)) e))]) (b := 57) d_MO_count_71 rfl rfl rfl cs_MO_96 rfl (Nat.le_of_ble_eq_true rfl) (Nat.le_of_ble_eq_true rfl) (by decide) (by decide) (d' := 0) (w' := 0) (by decide) (by decide) ?_
      show AW _ _ _ _ _ _ _ [(0, .ref (57)), (1, .int (nI (e))), (2, .int (nI ((30 + v) - 30)))] _ _ _ _ _
      refine B_places wd dr1 (by omega) (by omega) ?_
      rw [show 30 + v - 30 = v by omega]
      refine ab_go1 ?_
      refine aw_callS (K' := k_MO_bits) (As := [.int (nI (bsn (fw D e v) (dl D e)))]) (rest := [.int (nI (ps (fun e => cn (fw D e v) (dl D e)) e))]) d_MO_count_74 rfl cs_MO_113 rfl (Nat.le_of_ble_eq_true rfl) (Nat.le_of_ble_eq_true rfl) (by decide) (by decide) (d' := 0) (w' := 0) (by decide) (by decide) ?_
      show AW _ _ _ _ _ _ _ [(0, .int (nI (bsn (fw D e v) (dl D e))))] _ _ _ _ _
      refine B_bits (wd.2.1 _) ?_
      refine ab_go1 ?_
      refine aw_iaddN d_MO_count_77 ?_
      refine aw_istore_n (lv' := [(2, .int (nI ((ps (fun e => cn (fw D e v) (dl D e)) e) + (cn (fw D e v) (dl D e))))), (3, .int (nI (e))), (0, .ref (57)), (1, .int (nI (30 + v)))]) d_MO_count_78 rfl (by decide) rfl ?_
      refine aw_iinc (v := (nI (e + 1))) (lv' := [(3, .int (nI (e + 1))), (2, .int (nI ((ps (fun e => cn (fw D e v) (dl D e)) e) + (cn (fw D e v) (dl D e))))), (0, .ref (57)), (1, .int (nI (30 + v)))]) d_MO_count_79 (j := 1) rfl (nI_add (e) 1) (by decide) rfl ?_
      refine aw_goto (tgt := 56) d_MO_count_82 (by decide) ?_
      exact ih _ (by omega) (e + 1) rfl (by omega)
set_option maxRecDepth 4000 in
theorem R_count_word {l : Launch} {M : ab_M} {Q : ab_O → ab_M → Prop} {D : Dg} {T : Qg} {R : Rg} (wd : wD D) (dr : iDR D M) (wq : wQ T) (qr : iQR T M) (hn : rn R ≤ 12) (ho : ro R ≤ 12) (rr : iRR R M) {v : Nat} (hv : v < 16) (hQ : Q (.inl (some (.int (nI (ps (fun e => cn (fw D e v) (dl D e)) (dn D)))))) (thrM 0 M)) : AW sys l ab_Zt k_MO_count 1 24 0 [(0, .ref (57)), (1, .int (nI (30 + v)))] [] M 0 0 Q := by
  have h12 := wd.1
  have h24 := wq.1
  have hal := all_le wd
  refine aw_aload_n d_MO_count_0 rfl 0 rfl ?_
  refine aw_iconst (v := nI 0) d_MO_count_1 (by decide) ?_
  refine aw_putI (ic := 57) (ci := 6) (k := 0) d_MO_count_2 rfl rfl (by decide) rfl rfl rfl mw_775 ?_
  refine aw_iload_n d_MO_count_5 rfl 1 rfl ?_
  refine aw_bipush (v := nI 10) d_MO_count_6 (by decide) ?_
  refine aw_bipush (v := nI 21) d_MO_count_8 (by decide) ?_
  refine aw_callS (K' := k_MO_in) (As := [.int (nI (30 + v)), .int (nI (10)), .int (nI (21))]) (rest := []) d_MO_count_10 rfl cs_MO_54 rfl (Nat.le_of_ble_eq_true rfl) (Nat.le_of_ble_eq_true rfl) (by decide) (by decide) (d' := 0) (w' := 0) (by decide) (by decide) ?_
  show AW _ _ _ _ _ _ _ [(0, .int (nI (30 + v))), (1, .int (nI (10))), (2, .int (nI (21)))] _ _ _ _ _
  refine aw_iload_n d_MO_in_0 rfl 0 rfl ?_
  refine aw_iload_n d_MO_in_1 rfl 1 rfl ?_
  refine aw_icmp_ltN (tgt := 14) d_MO_in_2 (by decide) (by omega) (by omega) (fun c1 => ?_) (fun c1 => ?_)
  · skip
    refine aw_iconst (v := nI 0) d_MO_in_14 (by decide) ?_
    refine aw_zret (Or.inl rfl) d_MO_in_15 rfl (by decide) (by decide) (ab_go1 ?_)
    refine aw_if_eqN (tgt := 41) d_MO_count_13 (by decide) (by omega) (fun c2 => ?_) (fun c2 => ?_)
    · skip
      refine aw_iload_n d_MO_count_41 rfl 1 rfl ?_
      refine aw_bipush (v := nI 30) d_MO_count_42 (by decide) ?_
      refine aw_bipush (v := nI 45) d_MO_count_44 (by decide) ?_
      refine aw_callS (K' := k_MO_in) (As := [.int (nI (30 + v)), .int (nI (30)), .int (nI (45))]) (rest := []) d_MO_count_46 rfl cs_MO_54 rfl (Nat.le_of_ble_eq_true rfl) (Nat.le_of_ble_eq_true rfl) (by decide) (by decide) (d' := 0) (w' := 0) (by decide) (by decide) ?_
      show AW _ _ _ _ _ _ _ [(0, .int (nI (30 + v))), (1, .int (nI (30))), (2, .int (nI (45)))] _ _ _ _ _
      refine aw_iload_n d_MO_in_0 rfl 0 rfl ?_
      refine aw_iload_n d_MO_in_1 rfl 1 rfl ?_
      refine aw_icmp_ltN (tgt := 14) d_MO_in_2 (by decide) (by omega) (by omega) (fun c3 => ?_) (fun c3 => ?_)
      · skip
        refine aw_iconst (v := nI 0) d_MO_in_14 (by decide) ?_
        refine aw_zret (Or.inl rfl) d_MO_in_15 rfl (by decide) (by decide) (ab_go1 ?_)
        refine aw_if_eqN (tgt := 87) d_MO_count_49 (by decide) (by omega) (fun c4 => ?_) (fun c4 => ?_)
        · skip
          exfalso; omega
        · skip
          exact absurd c4 (by decide)
      · skip
        refine aw_iload_n d_MO_in_5 rfl 0 rfl ?_
        refine aw_iload_n d_MO_in_6 rfl 2 rfl ?_
        refine aw_icmp_gtN (tgt := 14) d_MO_in_7 (by decide) (by omega) (by omega) (fun c5 => ?_) (fun c5 => ?_)
        · skip
          refine aw_iconst (v := nI 0) d_MO_in_14 (by decide) ?_
          refine aw_zret (Or.inl rfl) d_MO_in_15 rfl (by decide) (by decide) (ab_go1 ?_)
          refine aw_if_eqN (tgt := 87) d_MO_count_49 (by decide) (by omega) (fun c6 => ?_) (fun c6 => ?_)
          · skip
            exfalso; omega
          · skip
            exact absurd c6 (by decide)
        · skip
          refine aw_iconst (v := nI 1) d_MO_in_10 (by decide) ?_
          refine aw_goto (tgt := 15) d_MO_in_11 (by decide) ?_
          refine aw_zret (Or.inr rfl) d_MO_in_15 rfl (by decide) (by decide) (ab_go1 ?_)
          refine aw_if_eqN (tgt := 87) d_MO_count_49 (by decide) (by omega) (fun c7 => ?_) (fun c7 => ?_)
          · skip
            exact absurd c7 (by decide)
          · skip
            refine aw_iconst (v := nI 0) d_MO_count_52 (by decide) ?_
            refine aw_istore_n (lv' := [(2, .int (nI (0))), (0, .ref (57)), (1, .int (nI (30 + v)))]) d_MO_count_53 rfl (by decide) rfl ?_
            refine aw_iconst (v := nI 0) d_MO_count_54 (by decide) ?_
            refine aw_istore_n (lv' := [(3, .int (nI (0))), (2, .int (nI (0))), (0, .ref (57)), (1, .int (nI (30 + v)))]) d_MO_count_55 rfl (by decide) rfl ?_
            exact R_cw_loop wd dr wq qr hn ho rr hv hQ _ 0 rfl (by omega)
    · skip
      exact absurd c2 (by decide)
  · skip
    refine aw_iload_n d_MO_in_5 rfl 0 rfl ?_
    refine aw_iload_n d_MO_in_6 rfl 2 rfl ?_
    refine aw_icmp_gtN (tgt := 14) d_MO_in_7 (by decide) (by omega) (by omega) (fun c8 => ?_) (fun c8 => ?_)
    · skip
      refine aw_iconst (v := nI 0) d_MO_in_14 (by decide) ?_
      refine aw_zret (Or.inl rfl) d_MO_in_15 rfl (by decide) (by decide) (ab_go1 ?_)
      refine aw_if_eqN (tgt := 41) d_MO_count_13 (by decide) (by omega) (fun c9 => ?_) (fun c9 => ?_)
      · skip
        refine aw_iload_n d_MO_count_41 rfl 1 rfl ?_
        refine aw_bipush (v := nI 30) d_MO_count_42 (by decide) ?_
        refine aw_bipush (v := nI 45) d_MO_count_44 (by decide) ?_
        refine aw_callS (K' := k_MO_in) (As := [.int (nI (30 + v)), .int (nI (30)), .int (nI (45))]) (rest := []) d_MO_count_46 rfl cs_MO_54 rfl (Nat.le_of_ble_eq_true rfl) (Nat.le_of_ble_eq_true rfl) (by decide) (by decide) (d' := 0) (w' := 0) (by decide) (by decide) ?_
        show AW _ _ _ _ _ _ _ [(0, .int (nI (30 + v))), (1, .int (nI (30))), (2, .int (nI (45)))] _ _ _ _ _
        refine aw_iload_n d_MO_in_0 rfl 0 rfl ?_
        refine aw_iload_n d_MO_in_1 rfl 1 rfl ?_
        refine aw_icmp_ltN (tgt := 14) d_MO_in_2 (by decide) (by omega) (by omega) (fun c10 => ?_) (fun c10 => ?_)
        · skip
          refine aw_iconst (v := nI 0) d_MO_in_14 (by decide) ?_
          refine aw_zret (Or.inl rfl) d_MO_in_15 rfl (by decide) (by decide) (ab_go1 ?_)
          refine aw_if_eqN (tgt := 87) d_MO_count_49 (by decide) (by omega) (fun c11 => ?_) (fun c11 => ?_)
          · skip
            exfalso; omega
          · skip
            exact absurd c11 (by decide)
        · skip
          refine aw_iload_n d_MO_in_5 rfl 0 rfl ?_
          refine aw_iload_n d_MO_in_6 rfl 2 rfl ?_
          refine aw_icmp_gtN (tgt := 14) d_MO_in_7 (by decide) (by omega) (by omega) (fun c12 => ?_) (fun c12 => ?_)
          · skip
            refine aw_iconst (v := nI 0) d_MO_in_14 (by decide) ?_
            refine aw_zret (Or.inl rfl) d_MO_in_15 rfl (by decide) (by decide) (ab_go1 ?_)
            refine aw_if_eqN (tgt := 87) d_MO_count_49 (by decide) (by omega) (fun c13 => ?_) (fun c13 => ?_)
            · skip
              exfalso; omega
            · skip
              exact absurd c13 (by decide)
          · skip
            refine aw_iconst (v := nI 1) d_MO_in_10 (by decide) ?_
            refine aw_goto (tgt := 15) d_MO_in_11 (by decide) ?_
            refine aw_zret (Or.inr rfl) d_MO_in_15 rfl (by decide) (by decide) (ab_go1 ?_)
            refine aw_if_eqN (tgt := 87) d_MO_count_49 (by decide) (by omega) (fun c14 => ?_) (fun c14 => ?_)
            · skip
              exact absurd c14 (by decide)
            · skip
              refine aw_iconst (v := nI 0) d_MO_count_52 (by decide) ?_
              refine aw_istore_n (lv' := [(2, .int (nI (0))), (0, .ref (57)), (1, .int (nI (30 + v)))]) d_MO_count_53 rfl (by decide) rfl ?_
              refine aw_iconst (v := nI 0) d_MO_count_54 (by decide) ?_
              refine aw_istore_n (lv' := [(3, .int (nI (0))), (2, .int (nI (0))), (0, .ref (57)), (1, .int (nI (30 + v)))]) d_MO_count_55 rfl (by decide) rfl ?_
              exact R_cw_loop wd dr wq qr hn ho rr hv hQ _ 0 rfl (by omega)
      · skip
        exact absurd c9 (by decide)
    · skip
      refine aw_iconst (v := nI 1) d_MO_in_10 (by decide) ?_
      refine aw_goto (tgt := 15) d_MO_in_11 (by decide) ?_
      refine aw_zret (Or.inr rfl) d_MO_in_15 rfl (by decide) (by decide) (ab_go1 ?_)
      refine aw_if_eqN (tgt := 41) d_MO_count_13 (by decide) (by omega) (fun c15 => ?_) (fun c15 => ?_)
      · skip
        exact absurd c15 (by decide)
      · skip
        exfalso; omega
set_option maxRecDepth 4000 in
theorem R_count0 {l : Launch} {M : ab_M} {Q : ab_O → ab_M → Prop} {D : Dg} {T : Qg} {R : Rg} (wd : wD D) (dr : iDR D M) (wq : wQ T) (qr : iQR T M) (hn : rn R ≤ 12) (ho : ro R ≤ 12) (rr : iRR R M) (hQ : Q (.inl (some (.int (nI (dn D))))) (thrM 0 M)) : AW sys l ab_Zt k_MO_count 1 24 0 [(0, .ref (57)), (1, .int (nI (0)))] [] M 0 0 Q := by
  have h12 := wd.1
  have h24 := wq.1
  have hal := all_le wd
  refine aw_aload_n d_MO_count_0 rfl 0 rfl ?_
  refine aw_iconst (v := nI 0) d_MO_count_1 (by decide) ?_
  refine aw_putI (ic := 57) (ci := 6) (k := 0) d_MO_count_2 rfl rfl (by decide) rfl rfl rfl mw_775 ?_
  refine aw_iload_n d_MO_count_5 rfl 1 rfl ?_
  refine aw_bipush (v := nI 10) d_MO_count_6 (by decide) ?_
  refine aw_bipush (v := nI 21) d_MO_count_8 (by decide) ?_
  refine aw_callS (K' := k_MO_in) (As := [.int (nI (0)), .int (nI (10)), .int (nI (21))]) (rest := []) d_MO_count_10 rfl cs_MO_54 rfl (Nat.le_of_ble_eq_true rfl) (Nat.le_of_ble_eq_true rfl) (by decide) (by decide) (d' := 0) (w' := 0) (by decide) (by decide) ?_
  show AW _ _ _ _ _ _ _ [(0, .int (nI (0))), (1, .int (nI (10))), (2, .int (nI (21)))] _ _ _ _ _
  refine aw_iload_n d_MO_in_0 rfl 0 rfl ?_
  refine aw_iload_n d_MO_in_1 rfl 1 rfl ?_
  refine aw_icmp_ltN (tgt := 14) d_MO_in_2 (by decide) (by omega) (by omega) (fun c1 => ?_) (fun c1 => ?_)
  · skip
    refine aw_iconst (v := nI 0) d_MO_in_14 (by decide) ?_
    refine aw_zret (Or.inl rfl) d_MO_in_15 rfl (by decide) (by decide) (ab_go1 ?_)
    refine aw_if_eqN (tgt := 41) d_MO_count_13 (by decide) (by omega) (fun c2 => ?_) (fun c2 => ?_)
    · skip
      refine aw_iload_n d_MO_count_41 rfl 1 rfl ?_
      refine aw_bipush (v := nI 30) d_MO_count_42 (by decide) ?_
      refine aw_bipush (v := nI 45) d_MO_count_44 (by decide) ?_
      refine aw_callS (K' := k_MO_in) (As := [.int (nI (0)), .int (nI (30)), .int (nI (45))]) (rest := []) d_MO_count_46 rfl cs_MO_54 rfl (Nat.le_of_ble_eq_true rfl) (Nat.le_of_ble_eq_true rfl) (by decide) (by decide) (d' := 0) (w' := 0) (by decide) (by decide) ?_
      show AW _ _ _ _ _ _ _ [(0, .int (nI (0))), (1, .int (nI (30))), (2, .int (nI (45)))] _ _ _ _ _
      refine aw_iload_n d_MO_in_0 rfl 0 rfl ?_
      refine aw_iload_n d_MO_in_1 rfl 1 rfl ?_
      refine aw_icmp_ltN (tgt := 14) d_MO_in_2 (by decide) (by omega) (by omega) (fun c3 => ?_) (fun c3 => ?_)
      · skip
        refine aw_iconst (v := nI 0) d_MO_in_14 (by decide) ?_
        refine aw_zret (Or.inl rfl) d_MO_in_15 rfl (by decide) (by decide) (ab_go1 ?_)
        refine aw_if_eqN (tgt := 87) d_MO_count_49 (by decide) (by omega) (fun c4 => ?_) (fun c4 => ?_)
        · skip
          refine aw_iload_n d_MO_count_87 rfl 1 rfl ?_
          refine aw_tabN 124 (by decide) d_MO_count_88 (Or.inr ⟨_, by decide, by decide, rfl, by decide⟩) ?_
          refine aw_aload_n d_MO_count_124 rfl 0 rfl ?_
          refine aw_get (ic := 57) (ci := 6) (k := 4) d_MO_count_125 rfl rfl (by decide) rfl mw_779 rfl ?_
          refine aw_eqi (nI (dn D)) (by repeat (first | rw [sI_ne (by omega)] | rw [sD_1]); exact dr.1) ?_
          refine aw_iret d_MO_count_128 rfl (by decide) (by decide) ?_
          exact hQ
        · skip
          exact absurd c4 (by decide)
      · skip
        exfalso; omega
    · skip
      exact absurd c2 (by decide)
  · skip
    exfalso; omega
set_option maxRecDepth 4000 in
theorem R_count1 {l : Launch} {M : ab_M} {Q : ab_O → ab_M → Prop} {D : Dg} {T : Qg} {R : Rg} (wd : wD D) (dr : iDR D M) (wq : wQ T) (qr : iQR T M) (hn : rn R ≤ 12) (ho : ro R ≤ 12) (rr : iRR R M) (hQ : Q (.inl (some (.int (nI (dall D))))) (thrM 0 M)) : AW sys l ab_Zt k_MO_count 1 24 0 [(0, .ref (57)), (1, .int (nI (1)))] [] M 0 0 Q := by
  have h12 := wd.1
  have h24 := wq.1
  have hal := all_le wd
  refine aw_aload_n d_MO_count_0 rfl 0 rfl ?_
  refine aw_iconst (v := nI 0) d_MO_count_1 (by decide) ?_
  refine aw_putI (ic := 57) (ci := 6) (k := 0) d_MO_count_2 rfl rfl (by decide) rfl rfl rfl mw_775 ?_
  refine aw_iload_n d_MO_count_5 rfl 1 rfl ?_
  refine aw_bipush (v := nI 10) d_MO_count_6 (by decide) ?_
  refine aw_bipush (v := nI 21) d_MO_count_8 (by decide) ?_
  refine aw_callS (K' := k_MO_in) (As := [.int (nI (1)), .int (nI (10)), .int (nI (21))]) (rest := []) d_MO_count_10 rfl cs_MO_54 rfl (Nat.le_of_ble_eq_true rfl) (Nat.le_of_ble_eq_true rfl) (by decide) (by decide) (d' := 0) (w' := 0) (by decide) (by decide) ?_
  show AW _ _ _ _ _ _ _ [(0, .int (nI (1))), (1, .int (nI (10))), (2, .int (nI (21)))] _ _ _ _ _
  refine aw_iload_n d_MO_in_0 rfl 0 rfl ?_
  refine aw_iload_n d_MO_in_1 rfl 1 rfl ?_
  refine aw_icmp_ltN (tgt := 14) d_MO_in_2 (by decide) (by omega) (by omega) (fun c1 => ?_) (fun c1 => ?_)
  · skip
    refine aw_iconst (v := nI 0) d_MO_in_14 (by decide) ?_
    refine aw_zret (Or.inl rfl) d_MO_in_15 rfl (by decide) (by decide) (ab_go1 ?_)
    refine aw_if_eqN (tgt := 41) d_MO_count_13 (by decide) (by omega) (fun c2 => ?_) (fun c2 => ?_)
    · skip
      refine aw_iload_n d_MO_count_41 rfl 1 rfl ?_
      refine aw_bipush (v := nI 30) d_MO_count_42 (by decide) ?_
      refine aw_bipush (v := nI 45) d_MO_count_44 (by decide) ?_
      refine aw_callS (K' := k_MO_in) (As := [.int (nI (1)), .int (nI (30)), .int (nI (45))]) (rest := []) d_MO_count_46 rfl cs_MO_54 rfl (Nat.le_of_ble_eq_true rfl) (Nat.le_of_ble_eq_true rfl) (by decide) (by decide) (d' := 0) (w' := 0) (by decide) (by decide) ?_
      show AW _ _ _ _ _ _ _ [(0, .int (nI (1))), (1, .int (nI (30))), (2, .int (nI (45)))] _ _ _ _ _
      refine aw_iload_n d_MO_in_0 rfl 0 rfl ?_
      refine aw_iload_n d_MO_in_1 rfl 1 rfl ?_
      refine aw_icmp_ltN (tgt := 14) d_MO_in_2 (by decide) (by omega) (by omega) (fun c3 => ?_) (fun c3 => ?_)
      · skip
        refine aw_iconst (v := nI 0) d_MO_in_14 (by decide) ?_
        refine aw_zret (Or.inl rfl) d_MO_in_15 rfl (by decide) (by decide) (ab_go1 ?_)
        refine aw_if_eqN (tgt := 87) d_MO_count_49 (by decide) (by omega) (fun c4 => ?_) (fun c4 => ?_)
        · skip
          refine aw_iload_n d_MO_count_87 rfl 1 rfl ?_
          refine aw_tabN 129 (by decide) d_MO_count_88 (Or.inr ⟨_, by decide, by decide, rfl, by decide⟩) ?_
          refine aw_aload_n d_MO_count_129 rfl 0 rfl ?_
          refine aw_callV (K' := k_MO_all) (As := []) (rest := []) (b := 57) d_MO_count_130 rfl rfl rfl cs_MO_118 rfl (Nat.le_of_ble_eq_true rfl) (Nat.le_of_ble_eq_true rfl) (by decide) (by decide) (d' := 0) (w' := 0) (by decide) (by decide) ?_
          show AW _ _ _ _ _ _ _ [(0, .ref (57))] _ _ _ _ _
          refine B_all wd (frB_dr (thr_fr 0 M) dr) ?_
          refine ab_go1 ?_
          refine aw_iret d_MO_count_133 rfl (by decide) (by decide) ?_
          exact hQ
        · skip
          exact absurd c4 (by decide)
      · skip
        exfalso; omega
    · skip
      exact absurd c2 (by decide)
  · skip
    exfalso; omega
set_option maxRecDepth 4000 in
theorem R_count2 {l : Launch} {M : ab_M} {Q : ab_O → ab_M → Prop} {D : Dg} {T : Qg} {R : Rg} (wd : wD D) (dr : iDR D M) (wq : wQ T) (qr : iQR T M) (hn : rn R ≤ 12) (ho : ro R ≤ 12) (rr : iRR R M) (hQ : Q (.inl (some (.int (nI (qn T))))) (thrM 0 M)) : AW sys l ab_Zt k_MO_count 1 24 0 [(0, .ref (57)), (1, .int (nI (2)))] [] M 0 0 Q := by
  have h12 := wd.1
  have h24 := wq.1
  have hal := all_le wd
  refine aw_aload_n d_MO_count_0 rfl 0 rfl ?_
  refine aw_iconst (v := nI 0) d_MO_count_1 (by decide) ?_
  refine aw_putI (ic := 57) (ci := 6) (k := 0) d_MO_count_2 rfl rfl (by decide) rfl rfl rfl mw_775 ?_
  refine aw_iload_n d_MO_count_5 rfl 1 rfl ?_
  refine aw_bipush (v := nI 10) d_MO_count_6 (by decide) ?_
  refine aw_bipush (v := nI 21) d_MO_count_8 (by decide) ?_
  refine aw_callS (K' := k_MO_in) (As := [.int (nI (2)), .int (nI (10)), .int (nI (21))]) (rest := []) d_MO_count_10 rfl cs_MO_54 rfl (Nat.le_of_ble_eq_true rfl) (Nat.le_of_ble_eq_true rfl) (by decide) (by decide) (d' := 0) (w' := 0) (by decide) (by decide) ?_
  show AW _ _ _ _ _ _ _ [(0, .int (nI (2))), (1, .int (nI (10))), (2, .int (nI (21)))] _ _ _ _ _
  refine aw_iload_n d_MO_in_0 rfl 0 rfl ?_
  refine aw_iload_n d_MO_in_1 rfl 1 rfl ?_
  refine aw_icmp_ltN (tgt := 14) d_MO_in_2 (by decide) (by omega) (by omega) (fun c1 => ?_) (fun c1 => ?_)
  · skip
    refine aw_iconst (v := nI 0) d_MO_in_14 (by decide) ?_
    refine aw_zret (Or.inl rfl) d_MO_in_15 rfl (by decide) (by decide) (ab_go1 ?_)
    refine aw_if_eqN (tgt := 41) d_MO_count_13 (by decide) (by omega) (fun c2 => ?_) (fun c2 => ?_)
    · skip
      refine aw_iload_n d_MO_count_41 rfl 1 rfl ?_
      refine aw_bipush (v := nI 30) d_MO_count_42 (by decide) ?_
      refine aw_bipush (v := nI 45) d_MO_count_44 (by decide) ?_
      refine aw_callS (K' := k_MO_in) (As := [.int (nI (2)), .int (nI (30)), .int (nI (45))]) (rest := []) d_MO_count_46 rfl cs_MO_54 rfl (Nat.le_of_ble_eq_true rfl) (Nat.le_of_ble_eq_true rfl) (by decide) (by decide) (d' := 0) (w' := 0) (by decide) (by decide) ?_
      show AW _ _ _ _ _ _ _ [(0, .int (nI (2))), (1, .int (nI (30))), (2, .int (nI (45)))] _ _ _ _ _
      refine aw_iload_n d_MO_in_0 rfl 0 rfl ?_
      refine aw_iload_n d_MO_in_1 rfl 1 rfl ?_
      refine aw_icmp_ltN (tgt := 14) d_MO_in_2 (by decide) (by omega) (by omega) (fun c3 => ?_) (fun c3 => ?_)
      · skip
        refine aw_iconst (v := nI 0) d_MO_in_14 (by decide) ?_
        refine aw_zret (Or.inl rfl) d_MO_in_15 rfl (by decide) (by decide) (ab_go1 ?_)
        refine aw_if_eqN (tgt := 87) d_MO_count_49 (by decide) (by omega) (fun c4 => ?_) (fun c4 => ?_)
        · skip
          refine aw_iload_n d_MO_count_87 rfl 1 rfl ?_
          refine aw_tabN 134 (by decide) d_MO_count_88 (Or.inr ⟨_, by decide, by decide, rfl, by decide⟩) ?_
          refine aw_aload_n d_MO_count_134 rfl 0 rfl ?_
          refine aw_get (ic := 57) (ci := 6) (k := 8) d_MO_count_135 rfl rfl (by decide) rfl mw_783 rfl ?_
          refine aw_eqi (nI (qn T)) (by repeat (first | rw [sI_ne (by omega)] | rw [sD_1]); exact qr.1) ?_
          refine aw_iret d_MO_count_138 rfl (by decide) (by decide) ?_
          exact hQ
        · skip
          exact absurd c4 (by decide)
      · skip
        exfalso; omega
    · skip
      exact absurd c2 (by decide)
  · skip
    exfalso; omega
set_option maxRecDepth 4000 in
theorem R_count3 {l : Launch} {M : ab_M} {Q : ab_O → ab_M → Prop} {D : Dg} {T : Qg} {R : Rg} (wd : wD D) (dr : iDR D M) (wq : wQ T) (qr : iQR T M) (hn : rn R ≤ 12) (ho : ro R ≤ 12) (rr : iRR R M) (hQ : Q (.inl (some (.int (nI (rn R))))) (thrM 0 M)) : AW sys l ab_Zt k_MO_count 1 24 0 [(0, .ref (57)), (1, .int (nI (3)))] [] M 0 0 Q := by
  have h12 := wd.1
  have h24 := wq.1
  have hal := all_le wd
  refine aw_aload_n d_MO_count_0 rfl 0 rfl ?_
  refine aw_iconst (v := nI 0) d_MO_count_1 (by decide) ?_
  refine aw_putI (ic := 57) (ci := 6) (k := 0) d_MO_count_2 rfl rfl (by decide) rfl rfl rfl mw_775 ?_
  refine aw_iload_n d_MO_count_5 rfl 1 rfl ?_
  refine aw_bipush (v := nI 10) d_MO_count_6 (by decide) ?_
  refine aw_bipush (v := nI 21) d_MO_count_8 (by decide) ?_
  refine aw_callS (K' := k_MO_in) (As := [.int (nI (3)), .int (nI (10)), .int (nI (21))]) (rest := []) d_MO_count_10 rfl cs_MO_54 rfl (Nat.le_of_ble_eq_true rfl) (Nat.le_of_ble_eq_true rfl) (by decide) (by decide) (d' := 0) (w' := 0) (by decide) (by decide) ?_
  show AW _ _ _ _ _ _ _ [(0, .int (nI (3))), (1, .int (nI (10))), (2, .int (nI (21)))] _ _ _ _ _
  refine aw_iload_n d_MO_in_0 rfl 0 rfl ?_
  refine aw_iload_n d_MO_in_1 rfl 1 rfl ?_
  refine aw_icmp_ltN (tgt := 14) d_MO_in_2 (by decide) (by omega) (by omega) (fun c1 => ?_) (fun c1 => ?_)
  · skip
    refine aw_iconst (v := nI 0) d_MO_in_14 (by decide) ?_
    refine aw_zret (Or.inl rfl) d_MO_in_15 rfl (by decide) (by decide) (ab_go1 ?_)
    refine aw_if_eqN (tgt := 41) d_MO_count_13 (by decide) (by omega) (fun c2 => ?_) (fun c2 => ?_)
    · skip
      refine aw_iload_n d_MO_count_41 rfl 1 rfl ?_
      refine aw_bipush (v := nI 30) d_MO_count_42 (by decide) ?_
      refine aw_bipush (v := nI 45) d_MO_count_44 (by decide) ?_
      refine aw_callS (K' := k_MO_in) (As := [.int (nI (3)), .int (nI (30)), .int (nI (45))]) (rest := []) d_MO_count_46 rfl cs_MO_54 rfl (Nat.le_of_ble_eq_true rfl) (Nat.le_of_ble_eq_true rfl) (by decide) (by decide) (d' := 0) (w' := 0) (by decide) (by decide) ?_
      show AW _ _ _ _ _ _ _ [(0, .int (nI (3))), (1, .int (nI (30))), (2, .int (nI (45)))] _ _ _ _ _
      refine aw_iload_n d_MO_in_0 rfl 0 rfl ?_
      refine aw_iload_n d_MO_in_1 rfl 1 rfl ?_
      refine aw_icmp_ltN (tgt := 14) d_MO_in_2 (by decide) (by omega) (by omega) (fun c3 => ?_) (fun c3 => ?_)
      · skip
        refine aw_iconst (v := nI 0) d_MO_in_14 (by decide) ?_
        refine aw_zret (Or.inl rfl) d_MO_in_15 rfl (by decide) (by decide) (ab_go1 ?_)
        refine aw_if_eqN (tgt := 87) d_MO_count_49 (by decide) (by omega) (fun c4 => ?_) (fun c4 => ?_)
        · skip
          refine aw_iload_n d_MO_count_87 rfl 1 rfl ?_
          refine aw_tabN 139 (by decide) d_MO_count_88 (Or.inr ⟨_, by decide, by decide, rfl, by decide⟩) ?_
          refine aw_aload_n d_MO_count_139 rfl 0 rfl ?_
          refine aw_get (ic := 57) (ci := 6) (k := 18) d_MO_count_140 rfl rfl (by decide) rfl mw_793 rfl ?_
          refine aw_eqi (nI (rn R)) (by repeat (first | rw [sI_ne (by omega)] | rw [sD_1]); exact rr.1) ?_
          refine aw_iret d_MO_count_143 rfl (by decide) (by decide) ?_
          exact hQ
        · skip
          exact absurd c4 (by decide)
      · skip
        exfalso; omega
    · skip
      exact absurd c2 (by decide)
  · skip
    exfalso; omega
set_option maxRecDepth 4000 in
theorem R_count4 {l : Launch} {M : ab_M} {Q : ab_O → ab_M → Prop} {D : Dg} {T : Qg} {R : Rg} (wd : wD D) (dr : iDR D M) (wq : wQ T) (qr : iQR T M) (hn : rn R ≤ 12) (ho : ro R ≤ 12) (rr : iRR R M) (hQ : Q (.inl (some (.int (nI (ro R))))) (thrM 0 M)) : AW sys l ab_Zt k_MO_count 1 24 0 [(0, .ref (57)), (1, .int (nI (4)))] [] M 0 0 Q := by
  have h12 := wd.1
  have h24 := wq.1
  have hal := all_le wd
  refine aw_aload_n d_MO_count_0 rfl 0 rfl ?_
  refine aw_iconst (v := nI 0) d_MO_count_1 (by decide) ?_
  refine aw_putI (ic := 57) (ci := 6) (k := 0) d_MO_count_2 rfl rfl (by decide) rfl rfl rfl mw_775 ?_
  refine aw_iload_n d_MO_count_5 rfl 1 rfl ?_
  refine aw_bipush (v := nI 10) d_MO_count_6 (by decide) ?_
  refine aw_bipush (v := nI 21) d_MO_count_8 (by decide) ?_
  refine aw_callS (K' := k_MO_in) (As := [.int (nI (4)), .int (nI (10)), .int (nI (21))]) (rest := []) d_MO_count_10 rfl cs_MO_54 rfl (Nat.le_of_ble_eq_true rfl) (Nat.le_of_ble_eq_true rfl) (by decide) (by decide) (d' := 0) (w' := 0) (by decide) (by decide) ?_
  show AW _ _ _ _ _ _ _ [(0, .int (nI (4))), (1, .int (nI (10))), (2, .int (nI (21)))] _ _ _ _ _
  refine aw_iload_n d_MO_in_0 rfl 0 rfl ?_
  refine aw_iload_n d_MO_in_1 rfl 1 rfl ?_
  refine aw_icmp_ltN (tgt := 14) d_MO_in_2 (by decide) (by omega) (by omega) (fun c1 => ?_) (fun c1 => ?_)
  · skip
    refine aw_iconst (v := nI 0) d_MO_in_14 (by decide) ?_
    refine aw_zret (Or.inl rfl) d_MO_in_15 rfl (by decide) (by decide) (ab_go1 ?_)
    refine aw_if_eqN (tgt := 41) d_MO_count_13 (by decide) (by omega) (fun c2 => ?_) (fun c2 => ?_)
    · skip
      refine aw_iload_n d_MO_count_41 rfl 1 rfl ?_
      refine aw_bipush (v := nI 30) d_MO_count_42 (by decide) ?_
      refine aw_bipush (v := nI 45) d_MO_count_44 (by decide) ?_
      refine aw_callS (K' := k_MO_in) (As := [.int (nI (4)), .int (nI (30)), .int (nI (45))]) (rest := []) d_MO_count_46 rfl cs_MO_54 rfl (Nat.le_of_ble_eq_true rfl) (Nat.le_of_ble_eq_true rfl) (by decide) (by decide) (d' := 0) (w' := 0) (by decide) (by decide) ?_
      show AW _ _ _ _ _ _ _ [(0, .int (nI (4))), (1, .int (nI (30))), (2, .int (nI (45)))] _ _ _ _ _
      refine aw_iload_n d_MO_in_0 rfl 0 rfl ?_
      refine aw_iload_n d_MO_in_1 rfl 1 rfl ?_
      refine aw_icmp_ltN (tgt := 14) d_MO_in_2 (by decide) (by omega) (by omega) (fun c3 => ?_) (fun c3 => ?_)
      · skip
        refine aw_iconst (v := nI 0) d_MO_in_14 (by decide) ?_
        refine aw_zret (Or.inl rfl) d_MO_in_15 rfl (by decide) (by decide) (ab_go1 ?_)
        refine aw_if_eqN (tgt := 87) d_MO_count_49 (by decide) (by omega) (fun c4 => ?_) (fun c4 => ?_)
        · skip
          refine aw_iload_n d_MO_count_87 rfl 1 rfl ?_
          refine aw_tabN 144 (by decide) d_MO_count_88 (Or.inr ⟨_, by decide, by decide, rfl, by decide⟩) ?_
          refine aw_aload_n d_MO_count_144 rfl 0 rfl ?_
          refine aw_get (ic := 57) (ci := 6) (k := 19) d_MO_count_145 rfl rfl (by decide) rfl mw_794 rfl ?_
          refine aw_eqi (nI (ro R)) (by repeat (first | rw [sI_ne (by omega)] | rw [sD_1]); exact rr.2.1) ?_
          refine aw_iret d_MO_count_148 rfl (by decide) (by decide) ?_
          exact hQ
        · skip
          exact absurd c4 (by decide)
      · skip
        exfalso; omega
    · skip
      exact absurd c2 (by decide)
  · skip
    exfalso; omega
set_option maxRecDepth 4000 in
theorem R_hits_bad {l : Launch} {M : ab_M} {Q : ab_O → ab_M → Prop} {D : Dg} {T : Qg} (wd : wD D) (dr : iDR D M) (wq : wQ T) (qr : iQR T M) {x y : Int32} (hb : (x.toInt < 0 ∨ (qn T : Int) ≤ x.toInt) ∨ y.toInt < 0 ∨ (dn D : Int) ≤ y.toInt) (hQ : Q (.inl (some (.int (nI 0)))) (thrM 1 M)) : AW sys l ab_Zt k_MO_hits 3 74 0 [(0, .ref (57)), (1, .int (x)), (2, .int (y))] [] M 0 0 Q := by
  have h12 := wd.1
  have h24 := wq.1
  have hop := op_le (T := T) (qn T) (fun t h => wq.2.1 t h)
  refine aw_iload_n d_MO_hits_0 rfl 1 rfl ?_
  refine aw_iconst (v := nI 0) d_MO_hits_1 (by decide) ?_
  refine aw_aload_n d_MO_hits_2 rfl 0 rfl ?_
  refine aw_get (ic := 57) (ci := 6) (k := 8) d_MO_hits_3 rfl rfl (by decide) rfl mw_783 rfl ?_
  refine aw_eqi (nI (qn T)) qr.1 ?_
  refine aw_iconst (v := nI 1) d_MO_hits_6 (by decide) ?_
  refine aw_isub d_MO_hits_7 ?_
  refine aw_callS (K' := k_MO_in) (As := [.int (x), .int (nI (0)), .int (nI (qn T) - nI 1)]) (rest := []) d_MO_hits_8 rfl cs_MO_54 rfl (Nat.le_of_ble_eq_true rfl) (Nat.le_of_ble_eq_true rfl) (by decide) (by decide) (d' := 0) (w' := 0) (by decide) (by decide) ?_
  show AW _ _ _ _ _ _ _ [(0, .int (x)), (1, .int (nI (0))), (2, .int (nI (qn T) - nI 1))] _ _ _ _ _
  refine aw_iload_n d_MO_in_0 rfl 0 rfl ?_
  refine aw_iload_n d_MO_in_1 rfl 1 rfl ?_
  refine at_lt rfl (nI_toInt (by omega)) (tgt := 14) d_MO_in_2 (by decide) (fun c1 => ?_) (fun c1 => ?_)
  · skip
    refine aw_iconst (v := nI 0) d_MO_in_14 (by decide) ?_
    refine aw_zret (Or.inl rfl) d_MO_in_15 rfl (by decide) (by decide) (ab_go1 ?_)
    refine aw_if_eqN (tgt := 28) d_MO_hits_11 (by decide) (by omega) (fun c2 => ?_) (fun c2 => ?_)
    · skip
      refine aw_aload_n d_MO_hits_28 rfl 0 rfl ?_
      refine aw_iconst (v := nI 1) d_MO_hits_29 (by decide) ?_
      refine aw_callV (K' := k_MO_refuse) (As := [.int (nI (1))]) (rest := []) (b := 57) d_MO_hits_30 rfl rfl rfl cs_MO_58 rfl (Nat.le_of_ble_eq_true rfl) (Nat.le_of_ble_eq_true rfl) (by decide) (by decide) (d' := 0) (w' := 0) (by decide) (by decide) ?_
      show AW _ _ _ _ _ _ _ [(0, .ref (57)), (1, .int (nI (1)))] _ _ _ _ _
      refine aw_aload_n d_MO_refuse_0 rfl 0 rfl ?_
      refine aw_iload_n d_MO_refuse_1 rfl 1 rfl ?_
      refine aw_putI (ic := 57) (ci := 6) (k := 0) d_MO_refuse_2 rfl rfl (by decide) rfl rfl rfl mw_775 ?_
      refine aw_iconst (v := nI 0) d_MO_refuse_5 (by decide) ?_
      refine aw_iret d_MO_refuse_6 rfl (by decide) (by decide) (ab_go1 ?_)
      refine aw_iret d_MO_hits_33 rfl (by decide) (by decide) ?_
      first | exact hQ | (exfalso; omega)
    · skip
      exact absurd c2 (by decide)
  · skip
    refine aw_iload_n d_MO_in_5 rfl 0 rfl ?_
    refine aw_iload_n d_MO_in_6 rfl 2 rfl ?_
    refine at_gt rfl (nm_int (by omega)) (tgt := 14) d_MO_in_7 (by decide) (fun c3 => ?_) (fun c3 => ?_)
    · skip
      refine aw_iconst (v := nI 0) d_MO_in_14 (by decide) ?_
      refine aw_zret (Or.inl rfl) d_MO_in_15 rfl (by decide) (by decide) (ab_go1 ?_)
      refine aw_if_eqN (tgt := 28) d_MO_hits_11 (by decide) (by omega) (fun c4 => ?_) (fun c4 => ?_)
      · skip
        refine aw_aload_n d_MO_hits_28 rfl 0 rfl ?_
        refine aw_iconst (v := nI 1) d_MO_hits_29 (by decide) ?_
        refine aw_callV (K' := k_MO_refuse) (As := [.int (nI (1))]) (rest := []) (b := 57) d_MO_hits_30 rfl rfl rfl cs_MO_58 rfl (Nat.le_of_ble_eq_true rfl) (Nat.le_of_ble_eq_true rfl) (by decide) (by decide) (d' := 0) (w' := 0) (by decide) (by decide) ?_
        show AW _ _ _ _ _ _ _ [(0, .ref (57)), (1, .int (nI (1)))] _ _ _ _ _
        refine aw_aload_n d_MO_refuse_0 rfl 0 rfl ?_
        refine aw_iload_n d_MO_refuse_1 rfl 1 rfl ?_
        refine aw_putI (ic := 57) (ci := 6) (k := 0) d_MO_refuse_2 rfl rfl (by decide) rfl rfl rfl mw_775 ?_
        refine aw_iconst (v := nI 0) d_MO_refuse_5 (by decide) ?_
        refine aw_iret d_MO_refuse_6 rfl (by decide) (by decide) (ab_go1 ?_)
        refine aw_iret d_MO_hits_33 rfl (by decide) (by decide) ?_
        first | exact hQ | (exfalso; omega)
      · skip
        exact absurd c4 (by decide)
    · skip
      refine aw_iconst (v := nI 1) d_MO_in_10 (by decide) ?_
      refine aw_goto (tgt := 15) d_MO_in_11 (by decide) ?_
      refine aw_zret (Or.inr rfl) d_MO_in_15 rfl (by decide) (by decide) (ab_go1 ?_)
      refine aw_if_eqN (tgt := 28) d_MO_hits_11 (by decide) (by omega) (fun c5 => ?_) (fun c5 => ?_)
      · skip
        exact absurd c5 (by decide)
      · skip
        refine aw_iload_n d_MO_hits_14 rfl 2 rfl ?_
        refine aw_iconst (v := nI 0) d_MO_hits_15 (by decide) ?_
        refine aw_aload_n d_MO_hits_16 rfl 0 rfl ?_
        refine aw_get (ic := 57) (ci := 6) (k := 4) d_MO_hits_17 rfl rfl (by decide) rfl mw_779 rfl ?_
        refine aw_eqi (nI (dn D)) dr.1 ?_
        refine aw_iconst (v := nI 1) d_MO_hits_20 (by decide) ?_
        refine aw_isub d_MO_hits_21 ?_
        refine aw_callS (K' := k_MO_in) (As := [.int (y), .int (nI (0)), .int (nI (dn D) - nI 1)]) (rest := []) d_MO_hits_22 rfl cs_MO_54 rfl (Nat.le_of_ble_eq_true rfl) (Nat.le_of_ble_eq_true rfl) (by decide) (by decide) (d' := 0) (w' := 0) (by decide) (by decide) ?_
        show AW _ _ _ _ _ _ _ [(0, .int (y)), (1, .int (nI (0))), (2, .int (nI (dn D) - nI 1))] _ _ _ _ _
        refine aw_iload_n d_MO_in_0 rfl 0 rfl ?_
        refine aw_iload_n d_MO_in_1 rfl 1 rfl ?_
        refine at_lt rfl (nI_toInt (by omega)) (tgt := 14) d_MO_in_2 (by decide) (fun c6 => ?_) (fun c6 => ?_)
        · skip
          refine aw_iconst (v := nI 0) d_MO_in_14 (by decide) ?_
          refine aw_zret (Or.inl rfl) d_MO_in_15 rfl (by decide) (by decide) (ab_go1 ?_)
          refine aw_if_neN (tgt := 34) d_MO_hits_25 (by decide) (by omega) (fun c7 => ?_) (fun c7 => ?_)
          · skip
            exact absurd c7 (by decide)
          · skip
            refine aw_aload_n d_MO_hits_28 rfl 0 rfl ?_
            refine aw_iconst (v := nI 1) d_MO_hits_29 (by decide) ?_
            refine aw_callV (K' := k_MO_refuse) (As := [.int (nI (1))]) (rest := []) (b := 57) d_MO_hits_30 rfl rfl rfl cs_MO_58 rfl (Nat.le_of_ble_eq_true rfl) (Nat.le_of_ble_eq_true rfl) (by decide) (by decide) (d' := 0) (w' := 0) (by decide) (by decide) ?_
            show AW _ _ _ _ _ _ _ [(0, .ref (57)), (1, .int (nI (1)))] _ _ _ _ _
            refine aw_aload_n d_MO_refuse_0 rfl 0 rfl ?_
            refine aw_iload_n d_MO_refuse_1 rfl 1 rfl ?_
            refine aw_putI (ic := 57) (ci := 6) (k := 0) d_MO_refuse_2 rfl rfl (by decide) rfl rfl rfl mw_775 ?_
            refine aw_iconst (v := nI 0) d_MO_refuse_5 (by decide) ?_
            refine aw_iret d_MO_refuse_6 rfl (by decide) (by decide) (ab_go1 ?_)
            refine aw_iret d_MO_hits_33 rfl (by decide) (by decide) ?_
            first | exact hQ | (exfalso; omega)
        · skip
          refine aw_iload_n d_MO_in_5 rfl 0 rfl ?_
          refine aw_iload_n d_MO_in_6 rfl 2 rfl ?_
          refine at_gt rfl (nm_int (by omega)) (tgt := 14) d_MO_in_7 (by decide) (fun c8 => ?_) (fun c8 => ?_)
          · skip
            refine aw_iconst (v := nI 0) d_MO_in_14 (by decide) ?_
            refine aw_zret (Or.inl rfl) d_MO_in_15 rfl (by decide) (by decide) (ab_go1 ?_)
            refine aw_if_neN (tgt := 34) d_MO_hits_25 (by decide) (by omega) (fun c9 => ?_) (fun c9 => ?_)
            · skip
              exact absurd c9 (by decide)
            · skip
              refine aw_aload_n d_MO_hits_28 rfl 0 rfl ?_
              refine aw_iconst (v := nI 1) d_MO_hits_29 (by decide) ?_
              refine aw_callV (K' := k_MO_refuse) (As := [.int (nI (1))]) (rest := []) (b := 57) d_MO_hits_30 rfl rfl rfl cs_MO_58 rfl (Nat.le_of_ble_eq_true rfl) (Nat.le_of_ble_eq_true rfl) (by decide) (by decide) (d' := 0) (w' := 0) (by decide) (by decide) ?_
              show AW _ _ _ _ _ _ _ [(0, .ref (57)), (1, .int (nI (1)))] _ _ _ _ _
              refine aw_aload_n d_MO_refuse_0 rfl 0 rfl ?_
              refine aw_iload_n d_MO_refuse_1 rfl 1 rfl ?_
              refine aw_putI (ic := 57) (ci := 6) (k := 0) d_MO_refuse_2 rfl rfl (by decide) rfl rfl rfl mw_775 ?_
              refine aw_iconst (v := nI 0) d_MO_refuse_5 (by decide) ?_
              refine aw_iret d_MO_refuse_6 rfl (by decide) (by decide) (ab_go1 ?_)
              refine aw_iret d_MO_hits_33 rfl (by decide) (by decide) ?_
              first | exact hQ | (exfalso; omega)
          · skip
            refine aw_iconst (v := nI 1) d_MO_in_10 (by decide) ?_
            refine aw_goto (tgt := 15) d_MO_in_11 (by decide) ?_
            refine aw_zret (Or.inr rfl) d_MO_in_15 rfl (by decide) (by decide) (ab_go1 ?_)
            refine aw_if_neN (tgt := 34) d_MO_hits_25 (by decide) (by omega) (fun c10 => ?_) (fun c10 => ?_)
            · skip
              exfalso; omega
            · skip
              exact absurd c10 (by decide)
set_option maxRecDepth 4000 in
theorem R_hits {l : Launch} {M : ab_M} {Q : ab_O → ab_M → Prop} {D : Dg} {T : Qg} (wd : wD D) (dr : iDR D M) (wq : wQ T) (qr : iQR T M) {t d : Nat} (ht : t < qn T) (hd : d < dn D) (hF : op T (qn T) ≠ 0 → Q (.inl (some (.int (nI 0)))) (thrM 2 M)) (hG : op T (qn T) = 0 → 4 < qk T t → Q (.inl (some (.int (nI 0)))) (thrM 3 M)) (hO : op T (qn T) = 0 → qk T t ≤ 4 → Q (.inl (some (.int (nI (cn (hitB T D t d) (dl D d)))))) (thrM 0 M)) : AW sys l ab_Zt k_MO_hits 3 74 0 [(0, .ref (57)), (1, .int (nI (t))), (2, .int (nI (d)))] [] M 0 0 Q := by
  have h12 := wd.1
  have h24 := wq.1
  have hop := op_le (T := T) (qn T) (fun t h => wq.2.1 t h)
  have hk11 := (wq.2.1 t ht).1
  refine aw_iload_n d_MO_hits_0 rfl 1 rfl ?_
  refine aw_iconst (v := nI 0) d_MO_hits_1 (by decide) ?_
  refine aw_aload_n d_MO_hits_2 rfl 0 rfl ?_
  refine aw_get (ic := 57) (ci := 6) (k := 8) d_MO_hits_3 rfl rfl (by decide) rfl mw_783 rfl ?_
  refine aw_eqi (nI (qn T)) qr.1 ?_
  refine aw_iconst (v := nI 1) d_MO_hits_6 (by decide) ?_
  refine aw_isub d_MO_hits_7 ?_
  refine aw_callS (K' := k_MO_in) (As := [.int (nI (t)), .int (nI (0)), .int (nI (qn T) - nI 1)]) (rest := []) d_MO_hits_8 rfl cs_MO_54 rfl (Nat.le_of_ble_eq_true rfl) (Nat.le_of_ble_eq_true rfl) (by decide) (by decide) (d' := 0) (w' := 0) (by decide) (by decide) ?_
  show AW _ _ _ _ _ _ _ [(0, .int (nI (t))), (1, .int (nI (0))), (2, .int (nI (qn T) - nI 1))] _ _ _ _ _
  refine aw_iload_n d_MO_in_0 rfl 0 rfl ?_
  refine aw_iload_n d_MO_in_1 rfl 1 rfl ?_
  refine aw_icmp_ltN (tgt := 14) d_MO_in_2 (by decide) (by omega) (by omega) (fun c1 => ?_) (fun c1 => ?_)
  · skip
    refine aw_iconst (v := nI 0) d_MO_in_14 (by decide) ?_
    refine aw_zret (Or.inl rfl) d_MO_in_15 rfl (by decide) (by decide) (ab_go1 ?_)
    refine aw_if_eqN (tgt := 28) d_MO_hits_11 (by decide) (by omega) (fun c2 => ?_) (fun c2 => ?_)
    · skip
      exfalso; omega
    · skip
      exact absurd c2 (by decide)
  · skip
    refine aw_iload_n d_MO_in_5 rfl 0 rfl ?_
    refine aw_iload_n d_MO_in_6 rfl 2 rfl ?_
    refine at_gt (nI_toInt (by omega)) (nm_int (by omega)) (tgt := 14) d_MO_in_7 (by decide) (fun c3 => ?_) (fun c3 => ?_)
    · skip
      refine aw_iconst (v := nI 0) d_MO_in_14 (by decide) ?_
      refine aw_zret (Or.inl rfl) d_MO_in_15 rfl (by decide) (by decide) (ab_go1 ?_)
      refine aw_if_eqN (tgt := 28) d_MO_hits_11 (by decide) (by omega) (fun c4 => ?_) (fun c4 => ?_)
      · skip
        exfalso; omega
      · skip
        exact absurd c4 (by decide)
    · skip
      refine aw_iconst (v := nI 1) d_MO_in_10 (by decide) ?_
      refine aw_goto (tgt := 15) d_MO_in_11 (by decide) ?_
      refine aw_zret (Or.inr rfl) d_MO_in_15 rfl (by decide) (by decide) (ab_go1 ?_)
      refine aw_if_eqN (tgt := 28) d_MO_hits_11 (by decide) (by omega) (fun c5 => ?_) (fun c5 => ?_)
      · skip
        exact absurd c5 (by decide)
      · skip
        refine aw_iload_n d_MO_hits_14 rfl 2 rfl ?_
        refine aw_iconst (v := nI 0) d_MO_hits_15 (by decide) ?_
        refine aw_aload_n d_MO_hits_16 rfl 0 rfl ?_
        refine aw_get (ic := 57) (ci := 6) (k := 4) d_MO_hits_17 rfl rfl (by decide) rfl mw_779 rfl ?_
        refine aw_eqi (nI (dn D)) dr.1 ?_
        refine aw_iconst (v := nI 1) d_MO_hits_20 (by decide) ?_
        refine aw_isub d_MO_hits_21 ?_
        refine aw_callS (K' := k_MO_in) (As := [.int (nI (d)), .int (nI (0)), .int (nI (dn D) - nI 1)]) (rest := []) d_MO_hits_22 rfl cs_MO_54 rfl (Nat.le_of_ble_eq_true rfl) (Nat.le_of_ble_eq_true rfl) (by decide) (by decide) (d' := 0) (w' := 0) (by decide) (by decide) ?_
        show AW _ _ _ _ _ _ _ [(0, .int (nI (d))), (1, .int (nI (0))), (2, .int (nI (dn D) - nI 1))] _ _ _ _ _
        refine aw_iload_n d_MO_in_0 rfl 0 rfl ?_
        refine aw_iload_n d_MO_in_1 rfl 1 rfl ?_
        refine aw_icmp_ltN (tgt := 14) d_MO_in_2 (by decide) (by omega) (by omega) (fun c6 => ?_) (fun c6 => ?_)
        · skip
          refine aw_iconst (v := nI 0) d_MO_in_14 (by decide) ?_
          refine aw_zret (Or.inl rfl) d_MO_in_15 rfl (by decide) (by decide) (ab_go1 ?_)
          refine aw_if_neN (tgt := 34) d_MO_hits_25 (by decide) (by omega) (fun c7 => ?_) (fun c7 => ?_)
          · skip
            exact absurd c7 (by decide)
          · skip
            exfalso; omega
        · skip
          refine aw_iload_n d_MO_in_5 rfl 0 rfl ?_
          refine aw_iload_n d_MO_in_6 rfl 2 rfl ?_
          refine at_gt (nI_toInt (by omega)) (nm_int (by omega)) (tgt := 14) d_MO_in_7 (by decide) (fun c8 => ?_) (fun c8 => ?_)
          · skip
            refine aw_iconst (v := nI 0) d_MO_in_14 (by decide) ?_
            refine aw_zret (Or.inl rfl) d_MO_in_15 rfl (by decide) (by decide) (ab_go1 ?_)
            refine aw_if_neN (tgt := 34) d_MO_hits_25 (by decide) (by omega) (fun c9 => ?_) (fun c9 => ?_)
            · skip
              exact absurd c9 (by decide)
            · skip
              exfalso; omega
          · skip
            refine aw_iconst (v := nI 1) d_MO_in_10 (by decide) ?_
            refine aw_goto (tgt := 15) d_MO_in_11 (by decide) ?_
            refine aw_zret (Or.inr rfl) d_MO_in_15 rfl (by decide) (by decide) (ab_go1 ?_)
            refine aw_if_neN (tgt := 34) d_MO_hits_25 (by decide) (by omega) (fun c10 => ?_) (fun c10 => ?_)
            · skip
              refine aw_aload_n d_MO_hits_34 rfl 0 rfl ?_
              refine aw_callV (K' := k_MO_open) (As := []) (rest := []) (b := 57) d_MO_hits_35 rfl rfl rfl cs_MO_84 rfl (Nat.le_of_ble_eq_true rfl) (Nat.le_of_ble_eq_true rfl) (by decide) (by decide) (d' := 1) (w' := 22) (by decide) (by decide) ?_
              show AW _ _ _ _ _ _ _ [(0, .ref (57))] _ _ _ _ _
              refine B_open wq qr ?_
              refine ab_go1 ?_
              refine aw_if_leN (tgt := 47) d_MO_hits_38 (by decide) (by omega) (fun c11 => ?_) (fun c11 => ?_)
              · skip
                refine aw_aload_n d_MO_hits_47 rfl 0 rfl ?_
                refine aw_get (ic := 57) (ci := 6) (k := 5) (v := .ref 61) d_MO_hits_48 rfl rfl (by decide) rfl mw_780 rfl ?_
                refine aw_iload_n d_MO_hits_51 rfl 1 rfl ?_
                refine aw_ialdN d_MO_hits_52 rfl (by decide) (by omega) ?_
                refine aw_eqi (nI (qk T t)) (qr.2.1 _ (by omega)) ?_
                refine aw_iconst (v := nI 4) d_MO_hits_53 (by decide) ?_
                refine aw_icmp_leN (tgt := 63) d_MO_hits_54 (by decide) (by omega) (by omega) (fun c12 => ?_) (fun c12 => ?_)
                · skip
                  refine aw_aload_n d_MO_hits_63 rfl 0 rfl ?_
                  refine aw_iconst (v := nI 0) d_MO_hits_64 (by decide) ?_
                  refine aw_putI (ic := 57) (ci := 6) (k := 0) d_MO_hits_65 rfl rfl (by decide) rfl rfl rfl mw_775 ?_
                  refine aw_aload_n d_MO_hits_68 rfl 0 rfl ?_
                  refine aw_iload_n d_MO_hits_69 rfl 1 rfl ?_
                  refine aw_iload_n d_MO_hits_70 rfl 2 rfl ?_
                  refine aw_callV (K' := k_MO_hitsOf) (As := [.int (nI (t)), .int (nI (d))]) (rest := []) (b := 57) d_MO_hits_71 rfl rfl rfl cs_MO_110 rfl (Nat.le_of_ble_eq_true rfl) (Nat.le_of_ble_eq_true rfl) (by decide) (by decide) (d' := 2) (w' := 48) (by decide) (by decide) ?_
                  show AW _ _ _ _ _ _ _ [(0, .ref (57)), (1, .int (nI (t))), (2, .int (nI (d)))] _ _ _ _ _
                  refine B_hitsOf wd (frB_dr (thr_fr 0 M) dr) wq (frB_qr (thr_fr 0 M) qr) (by omega) ht (by omega) hd ?_
                  refine ab_go1 ?_
                  refine aw_callS (K' := k_MO_bits) (As := [.int (nI (bsn (hitB T D t d) (dl D d)))]) (rest := []) d_MO_hits_74 rfl cs_MO_113 rfl (Nat.le_of_ble_eq_true rfl) (Nat.le_of_ble_eq_true rfl) (by decide) (by decide) (d' := 0) (w' := 0) (by decide) (by decide) ?_
                  show AW _ _ _ _ _ _ _ [(0, .int (nI (bsn (hitB T D t d) (dl D d))))] _ _ _ _ _
                  refine B_bits (wd.2.1 _) ?_
                  refine ab_go1 ?_
                  refine aw_iret d_MO_hits_77 rfl (by decide) (by decide) ?_
                  first | exact hF (by omega) | exact hG (by omega) (by omega) | exact hO (by omega) (by omega)
                · skip
                  refine aw_aload_n d_MO_hits_57 rfl 0 rfl ?_
                  refine aw_iconst (v := nI 3) d_MO_hits_58 (by decide) ?_
                  refine aw_callV (K' := k_MO_refuse) (As := [.int (nI (3))]) (rest := []) (b := 57) d_MO_hits_59 rfl rfl rfl cs_MO_58 rfl (Nat.le_of_ble_eq_true rfl) (Nat.le_of_ble_eq_true rfl) (by decide) (by decide) (d' := 0) (w' := 0) (by decide) (by decide) ?_
                  show AW _ _ _ _ _ _ _ [(0, .ref (57)), (1, .int (nI (3)))] _ _ _ _ _
                  refine aw_aload_n d_MO_refuse_0 rfl 0 rfl ?_
                  refine aw_iload_n d_MO_refuse_1 rfl 1 rfl ?_
                  refine aw_putI (ic := 57) (ci := 6) (k := 0) d_MO_refuse_2 rfl rfl (by decide) rfl rfl rfl mw_775 ?_
                  refine aw_iconst (v := nI 0) d_MO_refuse_5 (by decide) ?_
                  refine aw_iret d_MO_refuse_6 rfl (by decide) (by decide) (ab_go1 ?_)
                  refine aw_iret d_MO_hits_62 rfl (by decide) (by decide) ?_
                  first | exact hF (by omega) | exact hG (by omega) (by omega) | exact hO (by omega) (by omega)
              · skip
                refine aw_aload_n d_MO_hits_41 rfl 0 rfl ?_
                refine aw_iconst (v := nI 2) d_MO_hits_42 (by decide) ?_
                refine aw_callV (K' := k_MO_refuse) (As := [.int (nI (2))]) (rest := []) (b := 57) d_MO_hits_43 rfl rfl rfl cs_MO_58 rfl (Nat.le_of_ble_eq_true rfl) (Nat.le_of_ble_eq_true rfl) (by decide) (by decide) (d' := 0) (w' := 0) (by decide) (by decide) ?_
                show AW _ _ _ _ _ _ _ [(0, .ref (57)), (1, .int (nI (2)))] _ _ _ _ _
                refine aw_aload_n d_MO_refuse_0 rfl 0 rfl ?_
                refine aw_iload_n d_MO_refuse_1 rfl 1 rfl ?_
                refine aw_putI (ic := 57) (ci := 6) (k := 0) d_MO_refuse_2 rfl rfl (by decide) rfl rfl rfl mw_775 ?_
                refine aw_iconst (v := nI 0) d_MO_refuse_5 (by decide) ?_
                refine aw_iret d_MO_refuse_6 rfl (by decide) (by decide) (ab_go1 ?_)
                refine aw_iret d_MO_hits_46 rfl (by decide) (by decide) ?_
                first | exact hF (by omega) | exact hG (by omega) (by omega) | exact hO (by omega) (by omega)
            · skip
              exact absurd c10 (by decide)
