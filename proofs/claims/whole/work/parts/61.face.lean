/-! the FACE of the class: document, word, smooth, clear, wanted, found, score, told, count, hits (rows laid by gen/m11.py) -/
def IAE : String := "java/lang/IllegalArgumentException"
def docC (D : Dg) (t : Nat) (M : ab_M) : ab_M := ab_sI (ab_sI M 16 (dn D) (nI t)) 1 3 (nI (dn D + 1))
def wordC (D : Dg) (w : Nat) (M : ab_M) : ab_M := ab_sI (ab_sI (ab_sI M (yR sys 2 (dn D - 1)) (dl D (dn D - 1)) (nI w)) 15 (dn D - 1) (nI (dl D (dn D - 1) + 1))) 1 4 (nI (dall D + 1))
def smC (h : Nat) (mu : UInt64) (M : ab_M) : ab_M := ab_sD (ab_sI M 22 5 (nI h)) 22 6 mu
def clrC (M : ab_M) : ab_M := ab_sI (ab_sI (ab_sI M 17 4 (nI 0)) 17 5 (nI 1)) 17 6 (nI 0)

set_option maxRecDepth 4000 in
theorem C_document_bad {l : Launch} {M : ab_M} {Q : ab_O → ab_M → Prop} (hl : l.stackTraces = false) {x : Int32} (hb : x.toInt < 0 ∨ 24 < x.toInt) (hQ : Q (.inr "java/lang/IllegalArgumentException") M) : AW sys l ab_Zt k_BF_document 6 90 0 [(0, .ref (0)), (1, .int (x))] [] M 0 0 Q := by
  refine aw_iload_n d_BF_document_0 rfl 1 rfl ?_
  refine az_lt rfl (tgt := 10) d_BF_document_1 (by decide) (fun c1 => ?_) (fun c1 => ?_)
  · skip
    refine th_IAE hl rfl d_BF_document_10 d_BF_document_13 d_BF_document_14 d_BF_document_16 d_BF_document_19 (List.mem_of_getElem? (i := 0) rfl) rfl (by decide) (by decide) (by decide) (by decide) ?_
    first | exact hQ | (exact hF (by omega)) | (exfalso; omega)
  · skip
    refine aw_iload_n d_BF_document_4 rfl 1 rfl ?_
    refine aw_bipush (v := nI 24) d_BF_document_5 (by decide) ?_
    refine at_le rfl (nI_toInt (by omega)) (tgt := 20) d_BF_document_7 (by decide) (fun c2 => ?_) (fun c2 => ?_)
    · skip
      exfalso; omega
    · skip
      refine th_IAE hl rfl d_BF_document_10 d_BF_document_13 d_BF_document_14 d_BF_document_16 d_BF_document_19 (List.mem_of_getElem? (i := 0) rfl) rfl (by decide) (by decide) (by decide) (by decide) ?_
      first | exact hQ | (exact hF (by omega)) | (exfalso; omega)
set_option maxRecDepth 4000 in
theorem C_document {l : Launch} {M : ab_M} {Q : ab_O → ab_M → Prop} (hl : l.stackTraces = false) {D : Dg} (wd : wD D) (dc : iDC D M) {t : Nat} (ht : t ≤ 24) (hF : dn D = 12 → Q (.inr "java/lang/IllegalStateException") M) (hO : dn D < 12 → Q (.inl (some (.int (nI (dn D))))) (docC D t M)) : AW sys l ab_Zt k_BF_document 6 90 0 [(0, .ref (0)), (1, .int (nI (t)))] [] M 0 0 Q := by
  have h12 := wd.1
  refine aw_iload_n d_BF_document_0 rfl 1 rfl ?_
  refine aw_if_lt (tgt := 10) d_BF_document_1 (by decide) (fun c1 => ?_) (fun c1 => ?_)
  · skip
    exact absurd c1 (nI_pos (by omega))
  · skip
    refine aw_iload_n d_BF_document_4 rfl 1 rfl ?_
    refine aw_bipush (v := nI 24) d_BF_document_5 (by decide) ?_
    refine aw_icmp_leN (tgt := 20) d_BF_document_7 (by decide) (by omega) (by omega) (fun c2 => ?_) (fun c2 => ?_)
    · skip
      refine aw_aload_n d_BF_document_20 rfl 0 rfl ?_
      refine aw_get (ic := 0) (ci := 0) (k := 0) (v := .ref 1) d_BF_document_21 rfl rfl (by decide) rfl mw_189 rfl ?_
      refine aw_callV (K' := k_TX_isFull) (As := []) (rest := []) (b := 1) d_BF_document_24 rfl rfl rfl cs_BF_55 rfl (Nat.le_of_ble_eq_true rfl) (Nat.le_of_ble_eq_true rfl) (by decide) (by decide) (d' := 0) (w' := 0) (by decide) (by decide) ?_
      show AW _ _ _ _ _ _ _ [(0, .ref (1))] _ _ _ _ _
      refine aw_aload_n d_TX_isFull_0 rfl 0 rfl ?_
      refine aw_get (ic := 1) (ci := 1) (k := 3) d_TX_isFull_1 rfl rfl (by decide) rfl mw_72 rfl ?_
      refine aw_eqi (nI (dn D)) dc.1 ?_
      refine aw_bipush (v := nI 12) d_TX_isFull_4 (by decide) ?_
      refine aw_icmp_neN (tgt := 13) d_TX_isFull_6 (by decide) (by omega) (by omega) (fun c3 => ?_) (fun c3 => ?_)
      · skip
        refine aw_iconst (v := nI 0) d_TX_isFull_13 (by decide) ?_
        refine aw_zret (Or.inl rfl) d_TX_isFull_14 rfl (by decide) (by decide) (ab_go1 ?_)
        refine aw_if_eqN (tgt := 40) d_BF_document_27 (by decide) (by omega) (fun c4 => ?_) (fun c4 => ?_)
        · skip
          refine aw_aload_n d_BF_document_40 rfl 0 rfl ?_
          refine aw_get (ic := 0) (ci := 0) (k := 0) (v := .ref 1) d_BF_document_41 rfl rfl (by decide) rfl mw_189 rfl ?_
          refine aw_iload_n d_BF_document_44 rfl 1 rfl ?_
          refine aw_callV (K' := k_TX_open) (As := [.int (nI (t))]) (rest := []) (b := 1) d_BF_document_45 rfl rfl rfl cs_BF_64 rfl (Nat.le_of_ble_eq_true rfl) (Nat.le_of_ble_eq_true rfl) (by decide) (by decide) (d' := 0) (w' := 0) (by decide) (by decide) ?_
          show AW _ _ _ _ _ _ _ [(0, .ref (1)), (1, .int (nI (t)))] _ _ _ _ _
          refine aw_aload_n d_TX_open_0 rfl 0 rfl ?_
          refine aw_get (ic := 1) (ci := 1) (k := 2) (v := .ref 16) d_TX_open_1 rfl rfl (by decide) rfl mw_71 rfl ?_
          refine aw_aload_n d_TX_open_4 rfl 0 rfl ?_
          refine aw_get (ic := 1) (ci := 1) (k := 3) d_TX_open_5 rfl rfl (by decide) rfl mw_72 rfl ?_
          refine aw_eqi (nI (dn D)) dc.1 ?_
          refine aw_iload_n d_TX_open_8 rfl 1 rfl ?_
          refine aw_iastN d_TX_open_9 rfl (by decide) (by omega) ?_
          refine aw_aload_n d_TX_open_10 rfl 0 rfl ?_
          refine aw_dup d_TX_open_11 rfl ?_
          refine aw_get (ic := 1) (ci := 1) (k := 3) d_TX_open_12 rfl rfl (by decide) rfl mw_72 rfl ?_
          refine aw_eqi (nI (dn D)) (by rw [sI_ne (by omega)]; exact dc.1) ?_
          refine aw_iconst (v := nI 1) d_TX_open_15 (by decide) ?_
          refine aw_iaddN d_TX_open_16 ?_
          refine aw_putI (ic := 1) (ci := 1) (k := 3) d_TX_open_17 rfl rfl (by decide) rfl rfl rfl mw_72 ?_
          refine aw_aload_n d_TX_open_20 rfl 0 rfl ?_
          refine aw_get (ic := 1) (ci := 1) (k := 3) d_TX_open_21 rfl rfl (by decide) rfl mw_72 rfl ?_
          refine aw_eqi (nI (dn D + 1)) (sI_hit _ _ _ _) ?_
          refine aw_iconst (v := nI 1) d_TX_open_24 (by decide) ?_
          refine aw_isubN d_TX_open_25 (by omega) ?_
          refine aw_iret d_TX_open_26 rfl (by decide) (by decide) (ab_go1 ?_)
          refine aw_iret d_BF_document_48 rfl (by decide) (by decide) ?_
          refine q_n (by omega) (hO (by omega))
        · skip
          exact absurd c4 (by decide)
      · skip
        refine aw_iconst (v := nI 1) d_TX_isFull_9 (by decide) ?_
        refine aw_goto (tgt := 14) d_TX_isFull_10 (by decide) ?_
        refine aw_zret (Or.inr rfl) d_TX_isFull_14 rfl (by decide) (by decide) (ab_go1 ?_)
        refine aw_if_eqN (tgt := 40) d_BF_document_27 (by decide) (by omega) (fun c5 => ?_) (fun c5 => ?_)
        · skip
          exact absurd c5 (by decide)
        · skip
          refine th_ISE hl rfl d_BF_document_30 d_BF_document_33 d_BF_document_34 d_BF_document_36 d_BF_document_39 (List.mem_of_getElem? (i := 1) rfl) rfl (by decide) (by decide) (by decide) (by decide) ?_
          first | exact hQ | (exact hF (by omega)) | (exfalso; omega)
    · skip
      exfalso; omega
set_option maxRecDepth 4000 in
theorem C_word_bad {l : Launch} {M : ab_M} {Q : ab_O → ab_M → Prop} (hl : l.stackTraces = false) {x : Int32} (hb : x.toInt < 0 ∨ 15 < x.toInt) (hQ : Q (.inr "java/lang/IllegalArgumentException") M) : AW sys l ab_Zt k_BF_word 6 90 0 [(0, .ref (0)), (1, .int (x))] [] M 0 0 Q := by
  refine aw_iload_n d_BF_word_0 rfl 1 rfl ?_
  refine aw_callS (K' := k_BF_isWord) (As := [.int (x)]) (rest := []) d_BF_word_1 rfl cs_BF_68 rfl (Nat.le_of_ble_eq_true rfl) (Nat.le_of_ble_eq_true rfl) (by decide) (by decide) (d' := 0) (w' := 0) (by decide) (by decide) ?_
  show AW _ _ _ _ _ _ _ [(0, .int (x))] _ _ _ _ _
  refine aw_iload_n d_BF_isWord_0 rfl 0 rfl ?_
  refine az_lt rfl (tgt := 14) d_BF_isWord_1 (by decide) (fun c1 => ?_) (fun c1 => ?_)
  · skip
    refine aw_iconst (v := nI 0) d_BF_isWord_14 (by decide) ?_
    refine aw_zret (Or.inl rfl) d_BF_isWord_15 rfl (by decide) (by decide) (ab_go1 ?_)
    refine aw_if_neN (tgt := 17) d_BF_word_4 (by decide) (by omega) (fun c2 => ?_) (fun c2 => ?_)
    · skip
      exact absurd c2 (by decide)
    · skip
      refine th_IAE hl rfl d_BF_word_7 d_BF_word_10 d_BF_word_11 d_BF_word_13 d_BF_word_16 (List.mem_of_getElem? (i := 2) rfl) rfl (by decide) (by decide) (by decide) (by decide) ?_
      first | exact hQ | (exact hF (by omega)) | (exfalso; omega)
  · skip
    refine aw_iload_n d_BF_isWord_4 rfl 0 rfl ?_
    refine aw_bipush (v := nI 16) d_BF_isWord_5 (by decide) ?_
    refine at_ge rfl (nI_toInt (by omega)) (tgt := 14) d_BF_isWord_7 (by decide) (fun c3 => ?_) (fun c3 => ?_)
    · skip
      refine aw_iconst (v := nI 0) d_BF_isWord_14 (by decide) ?_
      refine aw_zret (Or.inl rfl) d_BF_isWord_15 rfl (by decide) (by decide) (ab_go1 ?_)
      refine aw_if_neN (tgt := 17) d_BF_word_4 (by decide) (by omega) (fun c4 => ?_) (fun c4 => ?_)
      · skip
        exact absurd c4 (by decide)
      · skip
        refine th_IAE hl rfl d_BF_word_7 d_BF_word_10 d_BF_word_11 d_BF_word_13 d_BF_word_16 (List.mem_of_getElem? (i := 2) rfl) rfl (by decide) (by decide) (by decide) (by decide) ?_
        first | exact hQ | (exact hF (by omega)) | (exfalso; omega)
    · skip
      refine aw_iconst (v := nI 1) d_BF_isWord_10 (by decide) ?_
      refine aw_goto (tgt := 15) d_BF_isWord_11 (by decide) ?_
      refine aw_zret (Or.inr rfl) d_BF_isWord_15 rfl (by decide) (by decide) (ab_go1 ?_)
      refine aw_if_neN (tgt := 17) d_BF_word_4 (by decide) (by omega) (fun c5 => ?_) (fun c5 => ?_)
      · skip
        exfalso; omega
      · skip
        exact absurd c5 (by decide)
set_option maxRecDepth 4000 in
theorem C_word {l : Launch} {M : ab_M} {Q : ab_O → ab_M → Prop} (hl : l.stackTraces = false) {D : Dg} (wd : wD D) (dc : iDC D M) {w : Nat} (hw : w < 16) (hF : ¬ (0 < dn D ∧ dl D (dn D - 1) < 24) → Q (.inr "java/lang/IllegalStateException") M) (hO : 0 < dn D → dl D (dn D - 1) < 24 → Q (.inl (some (.int (nI (dl D (dn D - 1) + 1))))) (wordC D w M)) : AW sys l ab_Zt k_BF_word 6 90 0 [(0, .ref (0)), (1, .int (nI (w)))] [] M 0 0 Q := by
  have h12 := wd.1
  have hl2 := wd.2.1 (dn D - 1)
  refine aw_iload_n d_BF_word_0 rfl 1 rfl ?_
  refine aw_callS (K' := k_BF_isWord) (As := [.int (nI (w))]) (rest := []) d_BF_word_1 rfl cs_BF_68 rfl (Nat.le_of_ble_eq_true rfl) (Nat.le_of_ble_eq_true rfl) (by decide) (by decide) (d' := 0) (w' := 0) (by decide) (by decide) ?_
  show AW _ _ _ _ _ _ _ [(0, .int (nI (w)))] _ _ _ _ _
  refine aw_iload_n d_BF_isWord_0 rfl 0 rfl ?_
  refine aw_if_lt (tgt := 14) d_BF_isWord_1 (by decide) (fun c1 => ?_) (fun c1 => ?_)
  · skip
    exact absurd c1 (nI_pos (by omega))
  · skip
    refine aw_iload_n d_BF_isWord_4 rfl 0 rfl ?_
    refine aw_bipush (v := nI 16) d_BF_isWord_5 (by decide) ?_
    refine aw_icmp_geN (tgt := 14) d_BF_isWord_7 (by decide) (by omega) (by omega) (fun c2 => ?_) (fun c2 => ?_)
    · skip
      refine aw_iconst (v := nI 0) d_BF_isWord_14 (by decide) ?_
      refine aw_zret (Or.inl rfl) d_BF_isWord_15 rfl (by decide) (by decide) (ab_go1 ?_)
      refine aw_if_neN (tgt := 17) d_BF_word_4 (by decide) (by omega) (fun c3 => ?_) (fun c3 => ?_)
      · skip
        exact absurd c3 (by decide)
      · skip
        exfalso; omega
    · skip
      refine aw_iconst (v := nI 1) d_BF_isWord_10 (by decide) ?_
      refine aw_goto (tgt := 15) d_BF_isWord_11 (by decide) ?_
      refine aw_zret (Or.inr rfl) d_BF_isWord_15 rfl (by decide) (by decide) (ab_go1 ?_)
      refine aw_if_neN (tgt := 17) d_BF_word_4 (by decide) (by omega) (fun c4 => ?_) (fun c4 => ?_)
      · skip
        refine aw_aload_n d_BF_word_17 rfl 0 rfl ?_
        refine aw_get (ic := 0) (ci := 0) (k := 0) (v := .ref 1) d_BF_word_18 rfl rfl (by decide) rfl mw_189 rfl ?_
        refine aw_callV (K' := k_TX_takesWord) (As := []) (rest := []) (b := 1) d_BF_word_21 rfl rfl rfl cs_BF_74 rfl (Nat.le_of_ble_eq_true rfl) (Nat.le_of_ble_eq_true rfl) (by decide) (by decide) (d' := 0) (w' := 0) (by decide) (by decide) ?_
        show AW _ _ _ _ _ _ _ [(0, .ref (1))] _ _ _ _ _
        refine aw_aload_n d_TX_takesWord_0 rfl 0 rfl ?_
        refine aw_get (ic := 1) (ci := 1) (k := 3) d_TX_takesWord_1 rfl rfl (by decide) rfl mw_72 rfl ?_
        refine aw_eqi (nI (dn D)) dc.1 ?_
        refine aw_if_leN (tgt := 27) d_TX_takesWord_4 (by decide) (by omega) (fun c5 => ?_) (fun c5 => ?_)
        · skip
          refine aw_iconst (v := nI 0) d_TX_takesWord_27 (by decide) ?_
          refine aw_zret (Or.inl rfl) d_TX_takesWord_28 rfl (by decide) (by decide) (ab_go1 ?_)
          refine aw_if_neN (tgt := 37) d_BF_word_24 (by decide) (by omega) (fun c6 => ?_) (fun c6 => ?_)
          · skip
            exact absurd c6 (by decide)
          · skip
            refine th_ISE hl rfl d_BF_word_27 d_BF_word_30 d_BF_word_31 d_BF_word_33 d_BF_word_36 (List.mem_of_getElem? (i := 3) rfl) rfl (by decide) (by decide) (by decide) (by decide) ?_
            first | exact hQ | (exact hF (by omega)) | (exfalso; omega)
        · skip
          refine aw_aload_n d_TX_takesWord_7 rfl 0 rfl ?_
          refine aw_get (ic := 1) (ci := 1) (k := 1) (v := .ref 15) d_TX_takesWord_8 rfl rfl (by decide) rfl mw_70 rfl ?_
          refine aw_aload_n d_TX_takesWord_11 rfl 0 rfl ?_
          refine aw_get (ic := 1) (ci := 1) (k := 3) d_TX_takesWord_12 rfl rfl (by decide) rfl mw_72 rfl ?_
          refine aw_eqi (nI (dn D)) dc.1 ?_
          refine aw_iconst (v := nI 1) d_TX_takesWord_15 (by decide) ?_
          refine aw_isubN d_TX_takesWord_16 (by omega) ?_
          refine aw_ialdN d_TX_takesWord_17 rfl (by decide) (by omega) ?_
          refine aw_eqi (nI (dl D (dn D - 1))) (dc.2.2.1 _ (by omega)) ?_
          refine aw_bipush (v := nI 24) d_TX_takesWord_18 (by decide) ?_
          refine aw_icmp_geN (tgt := 27) d_TX_takesWord_20 (by decide) (by omega) (by omega) (fun c7 => ?_) (fun c7 => ?_)
          · skip
            refine aw_iconst (v := nI 0) d_TX_takesWord_27 (by decide) ?_
            refine aw_zret (Or.inl rfl) d_TX_takesWord_28 rfl (by decide) (by decide) (ab_go1 ?_)
            refine aw_if_neN (tgt := 37) d_BF_word_24 (by decide) (by omega) (fun c8 => ?_) (fun c8 => ?_)
            · skip
              exact absurd c8 (by decide)
            · skip
              refine th_ISE hl rfl d_BF_word_27 d_BF_word_30 d_BF_word_31 d_BF_word_33 d_BF_word_36 (List.mem_of_getElem? (i := 3) rfl) rfl (by decide) (by decide) (by decide) (by decide) ?_
              first | exact hQ | (exact hF (by omega)) | (exfalso; omega)
          · skip
            refine aw_iconst (v := nI 1) d_TX_takesWord_23 (by decide) ?_
            refine aw_goto (tgt := 28) d_TX_takesWord_24 (by decide) ?_
            refine aw_zret (Or.inr rfl) d_TX_takesWord_28 rfl (by decide) (by decide) (ab_go1 ?_)
            refine aw_if_neN (tgt := 37) d_BF_word_24 (by decide) (by omega) (fun c9 => ?_) (fun c9 => ?_)
            · skip
              refine aw_aload_n d_BF_word_37 rfl 0 rfl ?_
              refine aw_get (ic := 0) (ci := 0) (k := 0) (v := .ref 1) d_BF_word_38 rfl rfl (by decide) rfl mw_189 rfl ?_
              refine aw_iload_n d_BF_word_41 rfl 1 rfl ?_
              refine aw_callV (K' := k_TX_append) (As := [.int (nI (w))]) (rest := []) (b := 1) d_BF_word_42 rfl rfl rfl cs_BF_79 rfl (Nat.le_of_ble_eq_true rfl) (Nat.le_of_ble_eq_true rfl) (by decide) (by decide) (d' := 0) (w' := 0) (by decide) (by decide) ?_
              show AW _ _ _ _ _ _ _ [(0, .ref (1)), (1, .int (nI (w)))] _ _ _ _ _
              refine aw_aload_n d_TX_append_0 rfl 0 rfl ?_
              refine aw_get (ic := 1) (ci := 1) (k := 3) d_TX_append_1 rfl rfl (by decide) rfl mw_72 rfl ?_
              refine aw_eqi (nI (dn D)) dc.1 ?_
              refine aw_iconst (v := nI 1) d_TX_append_4 (by decide) ?_
              refine aw_isubN d_TX_append_5 (by omega) ?_
              refine aw_istore_n (lv' := [(2, .int (nI (dn D - 1))), (0, .ref (1)), (1, .int (nI (w)))]) d_TX_append_6 rfl (by decide) rfl ?_
              refine aw_aload_n d_TX_append_7 rfl 1 rfl ?_
              refine aw_get (ic := 1) (ci := 1) (k := 0) (v := .ref 2) d_TX_append_8 rfl rfl (by decide) rfl mw_69 rfl ?_
              refine aw_iload_n d_TX_append_11 rfl 0 rfl ?_
              refine aw_aaldN d_TX_append_12 rfl (by decide) (by omega) ?_
              refine aw_aload_n d_TX_append_13 rfl 1 rfl ?_
              refine aw_get (ic := 1) (ci := 1) (k := 1) (v := .ref 15) d_TX_append_14 rfl rfl (by decide) rfl mw_70 rfl ?_
              refine aw_iload_n d_TX_append_17 rfl 0 rfl ?_
              refine aw_ialdN d_TX_append_18 rfl (by decide) (by omega) ?_
              refine aw_eqi (nI (dl D (dn D - 1))) (dc.2.2.1 _ (by omega)) ?_
              refine aw_iload_n d_TX_append_19 rfl 2 rfl ?_
              refine aw_iastN d_TX_append_20 (L_words (by omega)) (by decide) (by omega) ?_
              refine aw_aload_n d_TX_append_21 rfl 1 rfl ?_
              refine aw_get (ic := 1) (ci := 1) (k := 1) (v := .ref 15) d_TX_append_22 rfl rfl (by decide) rfl mw_70 rfl ?_
              refine aw_iload_n d_TX_append_25 rfl 0 rfl ?_
              refine aw_dup2_11 d_TX_append_26 rfl rfl ?_
              refine aw_ialdN d_TX_append_27 rfl (by decide) (by omega) ?_
              refine aw_eqi (nI (dl D (dn D - 1))) (by rw [sI_ne (by rw [R2 _ (by omega)]; omega)]; exact dc.2.2.1 _ (by omega)) ?_
              refine aw_iconst (v := nI 1) d_TX_append_28 (by decide) ?_
              refine aw_iaddN d_TX_append_29 ?_
              refine aw_iastN d_TX_append_30 rfl (by decide) (by omega) ?_
              refine aw_aload_n d_TX_append_31 rfl 1 rfl ?_
              refine aw_dup d_TX_append_32 rfl ?_
              refine aw_get (ic := 1) (ci := 1) (k := 4) d_TX_append_33 rfl rfl (by decide) rfl mw_73 rfl ?_
              refine aw_eqi (nI (dall D)) (by rw [sI_ne (by omega), sI_ne (by rw [R2 _ (by omega)]; omega)]; exact dc.2.1) ?_
              refine aw_iconst (v := nI 1) d_TX_append_36 (by decide) ?_
              refine aw_iaddN d_TX_append_37 ?_
              refine aw_putI (ic := 1) (ci := 1) (k := 4) d_TX_append_38 rfl rfl (by decide) rfl rfl rfl mw_73 ?_
              refine aw_aload_n d_TX_append_41 rfl 1 rfl ?_
              refine aw_get (ic := 1) (ci := 1) (k := 1) (v := .ref 15) d_TX_append_42 rfl rfl (by decide) rfl mw_70 rfl ?_
              refine aw_iload_n d_TX_append_45 rfl 0 rfl ?_
              refine aw_ialdN d_TX_append_46 rfl (by decide) (by omega) ?_
              refine aw_eqi (nI (dl D (dn D - 1) + 1)) (by rw [sI_ne (by omega)]; exact sI_hit _ _ _ _) ?_
              refine aw_iret d_TX_append_47 rfl (by decide) (by decide) (ab_go1 ?_)
              refine aw_iret d_BF_word_45 rfl (by decide) (by decide) ?_
              exact hO (by omega) (by omega)
            · skip
              exact absurd c9 (by decide)
      · skip
        exact absurd c4 (by decide)
set_option maxRecDepth 4000 in
theorem C_smooth_bad {l : Launch} {M : ab_M} {Q : ab_O → ab_M → Prop} (hl : l.stackTraces = false) {x : Int32} {mu : UInt64} (hb : x.toInt ≠ 0 ∧ x.toInt ≠ 1) (hQ : Q (.inr "java/lang/IllegalArgumentException") M) : AW sys l ab_Zt k_BF_smooth 6 90 0 [(0, .ref (0)), (1, .int (x)), (2, .double (mu))] [] M 0 0 Q := by
  refine aw_iload_n d_BF_smooth_0 rfl 1 rfl ?_
  refine az_eq rfl (tgt := 19) d_BF_smooth_1 (by decide) (fun c1 => ?_) (fun c1 => ?_)
  · skip
    exfalso; omega
  · skip
    refine aw_iload_n d_BF_smooth_4 rfl 1 rfl ?_
    refine aw_iconst (v := nI 1) d_BF_smooth_5 (by decide) ?_
    refine at_eq rfl (nI_toInt (by omega)) (tgt := 19) d_BF_smooth_6 (by decide) (fun c2 => ?_) (fun c2 => ?_)
    · skip
      exfalso; omega
    · skip
      refine th_IAE hl rfl d_BF_smooth_9 d_BF_smooth_12 d_BF_smooth_13 d_BF_smooth_15 d_BF_smooth_18 (List.mem_of_getElem? (i := 4) rfl) rfl (by decide) (by decide) (by decide) (by decide) ?_
      first | exact hQ | (exact hF (by omega)) | (exfalso; omega)
set_option maxRecDepth 4000 in
theorem C_smooth0 {l : Launch} {M : ab_M} {Q : ab_O → ab_M → Prop} (hl : l.stackTraces = false) {S : Sg} (sc : iSC S M) (hs : S.1 ≤ 1) {mu : UInt64} (fm : fF mu) (hF : ¬ (0 < fz mu ∧ fz mu ≤ fz 4636737291354636288) → Q (.inr "java/lang/IllegalArgumentException") M) (hO : 0 < fz mu → fz mu ≤ fz 4636737291354636288 → Q (.inl (some (.int (nI S.1)))) (smC 0 mu M)) : AW sys l ab_Zt k_BF_smooth 6 90 0 [(0, .ref (0)), (1, .int (nI (0))), (2, .double (mu))] [] M 0 0 Q := by
  refine aw_iload_n d_BF_smooth_0 rfl 1 rfl ?_
  refine aw_if_eqN (tgt := 19) d_BF_smooth_1 (by decide) (by omega) (fun c1 => ?_) (fun c1 => ?_)
  · skip
    refine aw_dload_n d_BF_smooth_19 rfl 2 rfl ?_
    refine aw_iload_n d_BF_smooth_20 rfl 1 rfl ?_
    refine aw_if_neN (tgt := 30) d_BF_smooth_21 (by decide) (by omega) (fun c2 => ?_) (fun c2 => ?_)
    · skip
      exact absurd c2 (by decide)
    · skip
      refine aw_ldc2d (v := 4636737291354636288) d_BF_smooth_24 mw_356 ?_
      refine aw_goto (tgt := 31) d_BF_smooth_27 (by decide) ?_
      refine aw_callS (K' := k_BF_isWithin) (As := [.double (mu), .double ((4636737291354636288 : UInt64))]) (rest := []) d_BF_smooth_31 rfl cs_BF_86 rfl (Nat.le_of_ble_eq_true rfl) (Nat.le_of_ble_eq_true rfl) (by decide) (by decide) (d' := 0) (w' := 0) (by decide) (by decide) ?_
      show AW _ _ _ _ _ _ _ [(0, .double (mu)), (2, .double ((4636737291354636288 : UInt64)))] _ _ _ _ _
      refine aw_dload_n d_BF_isWithin_0 rfl 0 rfl ?_
      refine aw_dconst0 d_BF_isWithin_1 ?_
      refine aw_dcmp d_BF_isWithin_2 ?_
      refine ad_le fm.n fF_zero.n d_BF_isWithin_3 (tgt := 16) (by decide) (fun c3 => ?_) (fun c3 => ?_)
      · skip
        refine aw_iconst (v := nI 0) d_BF_isWithin_16 (by decide) ?_
        refine aw_zret (Or.inl rfl) d_BF_isWithin_17 rfl (by decide) (by decide) (ab_go1 ?_)
        refine aw_if_neN (tgt := 47) d_BF_smooth_34 (by decide) (by omega) (fun c4 => ?_) (fun c4 => ?_)
        · skip
          exact absurd c4 (by decide)
        · skip
          refine th_IAE hl rfl d_BF_smooth_37 d_BF_smooth_40 d_BF_smooth_41 d_BF_smooth_43 d_BF_smooth_46 (List.mem_of_getElem? (i := 5) rfl) rfl (by decide) (by decide) (by decide) (by decide) ?_
          exact hF (by rw [fz_zero] at *; omega)
      · skip
        refine aw_dload_n d_BF_isWithin_6 rfl 0 rfl ?_
        refine aw_dload_n d_BF_isWithin_7 rfl 1 rfl ?_
        refine aw_dcmp d_BF_isWithin_8 ?_
        refine ad_gt fm.n fF_100.n d_BF_isWithin_9 (tgt := 16) (by decide) (fun c5 => ?_) (fun c5 => ?_)
        · skip
          refine aw_iconst (v := nI 0) d_BF_isWithin_16 (by decide) ?_
          refine aw_zret (Or.inl rfl) d_BF_isWithin_17 rfl (by decide) (by decide) (ab_go1 ?_)
          refine aw_if_neN (tgt := 47) d_BF_smooth_34 (by decide) (by omega) (fun c6 => ?_) (fun c6 => ?_)
          · skip
            exact absurd c6 (by decide)
          · skip
            refine th_IAE hl rfl d_BF_smooth_37 d_BF_smooth_40 d_BF_smooth_41 d_BF_smooth_43 d_BF_smooth_46 (List.mem_of_getElem? (i := 5) rfl) rfl (by decide) (by decide) (by decide) (by decide) ?_
            exact hF (by rw [fz_zero] at *; omega)
        · skip
          refine aw_iconst (v := nI 1) d_BF_isWithin_12 (by decide) ?_
          refine aw_goto (tgt := 17) d_BF_isWithin_13 (by decide) ?_
          refine aw_zret (Or.inr rfl) d_BF_isWithin_17 rfl (by decide) (by decide) (ab_go1 ?_)
          refine aw_if_neN (tgt := 47) d_BF_smooth_34 (by decide) (by omega) (fun c7 => ?_) (fun c7 => ?_)
          · skip
            refine aw_aload_n d_BF_smooth_47 rfl 0 rfl ?_
            refine aw_get (ic := 0) (ci := 0) (k := 2) (v := .ref 22) d_BF_smooth_48 rfl rfl (by decide) rfl mw_191 rfl ?_
            refine aw_iload_n d_BF_smooth_51 rfl 1 rfl ?_
            refine aw_dload_n d_BF_smooth_52 rfl 2 rfl ?_
            refine aw_callV (K' := k_NE_change) (As := [.int (nI (0)), .double (mu)]) (rest := []) (b := 22) d_BF_smooth_53 rfl rfl rfl cs_BF_92 rfl (Nat.le_of_ble_eq_true rfl) (Nat.le_of_ble_eq_true rfl) (by decide) (by decide) (d' := 0) (w' := 0) (by decide) (by decide) ?_
            show AW _ _ _ _ _ _ _ [(0, .ref (22)), (1, .int (nI (0))), (2, .double (mu))] _ _ _ _ _
            refine aw_aload_n d_NE_change_0 rfl 0 rfl ?_
            refine aw_get (ic := 22) (ci := 3) (k := 5) d_NE_change_1 rfl rfl (by decide) rfl mw_128 rfl ?_
            refine aw_eqi (nI (S.1)) sc.1 ?_
            refine aw_istore (lv' := [(4, .int (nI (S.1))), (0, .ref (22)), (1, .int (nI (0))), (2, .double (mu))]) d_NE_change_4 (by decide) rfl ?_
            refine aw_aload_n d_NE_change_6 rfl 1 rfl ?_
            refine aw_iload_n d_NE_change_7 rfl 2 rfl ?_
            refine aw_putI (ic := 22) (ci := 3) (k := 5) d_NE_change_8 rfl rfl (by decide) rfl rfl rfl mw_128 ?_
            refine aw_aload_n d_NE_change_11 rfl 1 rfl ?_
            refine aw_dload_n d_NE_change_12 rfl 3 rfl ?_
            refine aw_putD (ic := 22) (ci := 3) (k := 6) d_NE_change_13 rfl rfl (by decide) rfl rfl rfl mw_129 ?_
            refine aw_iload d_NE_change_16 0 rfl ?_
            refine aw_iret d_NE_change_18 rfl (by decide) (by decide) (ab_go1 ?_)
            refine aw_iret d_BF_smooth_56 rfl (by decide) (by decide) ?_
            exact hO (by rw [fz_zero] at *; omega) (by omega)
          · skip
            exact absurd c7 (by decide)
  · skip
    exact absurd c1 (by decide)
set_option maxRecDepth 4000 in
theorem C_smooth1 {l : Launch} {M : ab_M} {Q : ab_O → ab_M → Prop} (hl : l.stackTraces = false) {S : Sg} (sc : iSC S M) (hs : S.1 ≤ 1) {mu : UInt64} (fm : fF mu) (hF : ¬ (0 < fz mu ∧ fz mu ≤ fz FP.dconst1) → Q (.inr "java/lang/IllegalArgumentException") M) (hO : 0 < fz mu → fz mu ≤ fz FP.dconst1 → Q (.inl (some (.int (nI S.1)))) (smC 1 mu M)) : AW sys l ab_Zt k_BF_smooth 6 90 0 [(0, .ref (0)), (1, .int (nI (1))), (2, .double (mu))] [] M 0 0 Q := by
  refine aw_iload_n d_BF_smooth_0 rfl 1 rfl ?_
  refine aw_if_eqN (tgt := 19) d_BF_smooth_1 (by decide) (by omega) (fun c1 => ?_) (fun c1 => ?_)
  · skip
    exact absurd c1 (by decide)
  · skip
    refine aw_iload_n d_BF_smooth_4 rfl 1 rfl ?_
    refine aw_iconst (v := nI 1) d_BF_smooth_5 (by decide) ?_
    refine aw_icmp_eqN (tgt := 19) d_BF_smooth_6 (by decide) (by omega) (by omega) (fun c2 => ?_) (fun c2 => ?_)
    · skip
      refine aw_dload_n d_BF_smooth_19 rfl 2 rfl ?_
      refine aw_iload_n d_BF_smooth_20 rfl 1 rfl ?_
      refine aw_if_neN (tgt := 30) d_BF_smooth_21 (by decide) (by omega) (fun c3 => ?_) (fun c3 => ?_)
      · skip
        refine aw_dconst1 d_BF_smooth_30 ?_
        refine aw_callS (K' := k_BF_isWithin) (As := [.double (mu), .double (FP.dconst1)]) (rest := []) d_BF_smooth_31 rfl cs_BF_86 rfl (Nat.le_of_ble_eq_true rfl) (Nat.le_of_ble_eq_true rfl) (by decide) (by decide) (d' := 0) (w' := 0) (by decide) (by decide) ?_
        show AW _ _ _ _ _ _ _ [(0, .double (mu)), (2, .double (FP.dconst1))] _ _ _ _ _
        refine aw_dload_n d_BF_isWithin_0 rfl 0 rfl ?_
        refine aw_dconst0 d_BF_isWithin_1 ?_
        refine aw_dcmp d_BF_isWithin_2 ?_
        refine ad_le fm.n fF_zero.n d_BF_isWithin_3 (tgt := 16) (by decide) (fun c4 => ?_) (fun c4 => ?_)
        · skip
          refine aw_iconst (v := nI 0) d_BF_isWithin_16 (by decide) ?_
          refine aw_zret (Or.inl rfl) d_BF_isWithin_17 rfl (by decide) (by decide) (ab_go1 ?_)
          refine aw_if_neN (tgt := 47) d_BF_smooth_34 (by decide) (by omega) (fun c5 => ?_) (fun c5 => ?_)
          · skip
            exact absurd c5 (by decide)
          · skip
            refine th_IAE hl rfl d_BF_smooth_37 d_BF_smooth_40 d_BF_smooth_41 d_BF_smooth_43 d_BF_smooth_46 (List.mem_of_getElem? (i := 5) rfl) rfl (by decide) (by decide) (by decide) (by decide) ?_
            exact hF (by rw [fz_zero] at *; omega)
        · skip
          refine aw_dload_n d_BF_isWithin_6 rfl 0 rfl ?_
          refine aw_dload_n d_BF_isWithin_7 rfl 1 rfl ?_
          refine aw_dcmp d_BF_isWithin_8 ?_
          refine ad_gt fm.n fF_one.n d_BF_isWithin_9 (tgt := 16) (by decide) (fun c6 => ?_) (fun c6 => ?_)
          · skip
            refine aw_iconst (v := nI 0) d_BF_isWithin_16 (by decide) ?_
            refine aw_zret (Or.inl rfl) d_BF_isWithin_17 rfl (by decide) (by decide) (ab_go1 ?_)
            refine aw_if_neN (tgt := 47) d_BF_smooth_34 (by decide) (by omega) (fun c7 => ?_) (fun c7 => ?_)
            · skip
              exact absurd c7 (by decide)
            · skip
              refine th_IAE hl rfl d_BF_smooth_37 d_BF_smooth_40 d_BF_smooth_41 d_BF_smooth_43 d_BF_smooth_46 (List.mem_of_getElem? (i := 5) rfl) rfl (by decide) (by decide) (by decide) (by decide) ?_
              exact hF (by rw [fz_zero] at *; omega)
          · skip
            refine aw_iconst (v := nI 1) d_BF_isWithin_12 (by decide) ?_
            refine aw_goto (tgt := 17) d_BF_isWithin_13 (by decide) ?_
            refine aw_zret (Or.inr rfl) d_BF_isWithin_17 rfl (by decide) (by decide) (ab_go1 ?_)
            refine aw_if_neN (tgt := 47) d_BF_smooth_34 (by decide) (by omega) (fun c8 => ?_) (fun c8 => ?_)
            · skip
              refine aw_aload_n d_BF_smooth_47 rfl 0 rfl ?_
              refine aw_get (ic := 0) (ci := 0) (k := 2) (v := .ref 22) d_BF_smooth_48 rfl rfl (by decide) rfl mw_191 rfl ?_
              refine aw_iload_n d_BF_smooth_51 rfl 1 rfl ?_
              refine aw_dload_n d_BF_smooth_52 rfl 2 rfl ?_
              refine aw_callV (K' := k_NE_change) (As := [.int (nI (1)), .double (mu)]) (rest := []) (b := 22) d_BF_smooth_53 rfl rfl rfl cs_BF_92 rfl (Nat.le_of_ble_eq_true rfl) (Nat.le_of_ble_eq_true rfl) (by decide) (by decide) (d' := 0) (w' := 0) (by decide) (by decide) ?_
              show AW _ _ _ _ _ _ _ [(0, .ref (22)), (1, .int (nI (1))), (2, .double (mu))] _ _ _ _ _
              refine aw_aload_n d_NE_change_0 rfl 0 rfl ?_
              refine aw_get (ic := 22) (ci := 3) (k := 5) d_NE_change_1 rfl rfl (by decide) rfl mw_128 rfl ?_
              refine aw_eqi (nI (S.1)) sc.1 ?_
              refine aw_istore (lv' := [(4, .int (nI (S.1))), (0, .ref (22)), (1, .int (nI (1))), (2, .double (mu))]) d_NE_change_4 (by decide) rfl ?_
              refine aw_aload_n d_NE_change_6 rfl 1 rfl ?_
              refine aw_iload_n d_NE_change_7 rfl 2 rfl ?_
              refine aw_putI (ic := 22) (ci := 3) (k := 5) d_NE_change_8 rfl rfl (by decide) rfl rfl rfl mw_128 ?_
              refine aw_aload_n d_NE_change_11 rfl 1 rfl ?_
              refine aw_dload_n d_NE_change_12 rfl 3 rfl ?_
              refine aw_putD (ic := 22) (ci := 3) (k := 6) d_NE_change_13 rfl rfl (by decide) rfl rfl rfl mw_129 ?_
              refine aw_iload d_NE_change_16 0 rfl ?_
              refine aw_iret d_NE_change_18 rfl (by decide) (by decide) (ab_go1 ?_)
              refine aw_iret d_BF_smooth_56 rfl (by decide) (by decide) ?_
              exact hO (by rw [fz_zero] at *; omega) (by omega)
            · skip
              exact absurd c8 (by decide)
      · skip
        exact absurd c3 (by decide)
    · skip
      exfalso; omega
set_option maxRecDepth 4000 in
theorem C_clear {l : Launch} {M : ab_M} {Q : ab_O → ab_M → Prop} {T : Qg} (wq : wQ T) (qc : iQC T M) (hQ : Q (.inl (some (.int (nI (qn T))))) (clrC M)) : AW sys l ab_Zt k_BF_clear 1 20 0 [(0, .ref (0))] [] M 0 0 Q := by
  refine aw_aload_n d_BF_clear_0 rfl 0 rfl ?_
  refine aw_get (ic := 0) (ci := 0) (k := 1) (v := .ref 17) d_BF_clear_1 rfl rfl (by decide) rfl mw_190 rfl ?_
  refine aw_callV (K' := k_QU_size) (As := []) (rest := []) (b := 17) d_BF_clear_4 rfl rfl rfl cs_BF_125 rfl (Nat.le_of_ble_eq_true rfl) (Nat.le_of_ble_eq_true rfl) (by decide) (by decide) (d' := 0) (w' := 0) (by decide) (by decide) ?_
  show AW _ _ _ _ _ _ _ [(0, .ref (17))] _ _ _ _ _
  refine aw_aload_n d_QU_size_0 rfl 0 rfl ?_
  refine aw_get (ic := 17) (ci := 2) (k := 4) d_QU_size_1 rfl rfl (by decide) rfl mw_96 rfl ?_
  refine aw_eqi (nI (qn T)) qc.1 ?_
  refine aw_iret d_QU_size_4 rfl (by decide) (by decide) (ab_go1 ?_)
  refine aw_istore_n (lv' := [(1, .int (nI (qn T))), (0, .ref (0))]) d_BF_clear_7 rfl (by decide) rfl ?_
  refine aw_aload_n d_BF_clear_8 rfl 1 rfl ?_
  refine aw_get (ic := 0) (ci := 0) (k := 1) (v := .ref 17) d_BF_clear_9 rfl rfl (by decide) rfl mw_190 rfl ?_
  refine aw_callV (K' := k_QU_empty) (As := []) (rest := []) (b := 17) d_BF_clear_12 rfl rfl rfl cs_BF_129 rfl (Nat.le_of_ble_eq_true rfl) (Nat.le_of_ble_eq_true rfl) (by decide) (by decide) (d' := 0) (w' := 0) (by decide) (by decide) ?_
  show AW _ _ _ _ _ _ _ [(0, .ref (17))] _ _ _ _ _
  refine aw_aload_n d_QU_empty_0 rfl 0 rfl ?_
  refine aw_iconst (v := nI 0) d_QU_empty_1 (by decide) ?_
  refine aw_putI (ic := 17) (ci := 2) (k := 4) d_QU_empty_2 rfl rfl (by decide) rfl rfl rfl mw_96 ?_
  refine aw_aload_n d_QU_empty_5 rfl 0 rfl ?_
  refine aw_iconst (v := nI 1) d_QU_empty_6 (by decide) ?_
  refine aw_putI (ic := 17) (ci := 2) (k := 5) d_QU_empty_7 rfl rfl (by decide) rfl rfl rfl mw_97 ?_
  refine aw_aload_n d_QU_empty_10 rfl 0 rfl ?_
  refine aw_iconst (v := nI 0) d_QU_empty_11 (by decide) ?_
  refine aw_putI (ic := 17) (ci := 2) (k := 6) d_QU_empty_12 rfl rfl (by decide) rfl rfl rfl mw_98 ?_
  refine aw_vret d_QU_empty_15 rfl (by decide) (by decide) (ab_go0 ?_)
  refine aw_iload_n d_BF_clear_15 rfl 0 rfl ?_
  refine aw_iret d_BF_clear_16 rfl (by decide) (by decide) ?_
  exact hQ
set_option maxRecDepth 4000 in
theorem C_wanted {l : Launch} {M : ab_M} {Q : ab_O → ab_M → Prop} {T : Qg} (wq : wQ T) (qc : iQC T M) (hQ : Q (.inl (some (.int (nI (op T (qn T)))))) M) : AW sys l ab_Zt k_BF_wanted 1 20 0 [(0, .ref (0))] [] M 0 0 Q := by
  refine aw_aload_n d_BF_wanted_0 rfl 0 rfl ?_
  refine aw_get (ic := 0) (ci := 0) (k := 1) (v := .ref 17) d_BF_wanted_1 rfl rfl (by decide) rfl mw_190 rfl ?_
  refine aw_callV (K' := k_QU_nodesWanted) (As := []) (rest := []) (b := 17) d_BF_wanted_4 rfl rfl rfl cs_BF_132 rfl (Nat.le_of_ble_eq_true rfl) (Nat.le_of_ble_eq_true rfl) (by decide) (by decide) (d' := 0) (w' := 0) (by decide) (by decide) ?_
  show AW _ _ _ _ _ _ _ [(0, .ref (17))] _ _ _ _ _
  refine aw_aload_n d_QU_nodesWanted_0 rfl 0 rfl ?_
  refine aw_get (ic := 17) (ci := 2) (k := 5) d_QU_nodesWanted_1 rfl rfl (by decide) rfl mw_97 rfl ?_
  refine aw_eqi (nI (op T (qn T))) qc.2.2.2.2.1 ?_
  refine aw_iret d_QU_nodesWanted_4 rfl (by decide) (by decide) (ab_go1 ?_)
  refine aw_iret d_BF_wanted_7 rfl (by decide) (by decide) ?_
  exact hQ
set_option maxRecDepth 4000 in
theorem C_found_bad {l : Launch} {M : ab_M} {Q : ab_O → ab_M → Prop} (hl : l.stackTraces = false) {R : Rg} (hn : rn R ≤ 12) (rc : iRC R M) {x : Int32} (hb : x.toInt < 0 ∨ (rn R : Int) ≤ x.toInt) (hQ : Q (.inr "java/lang/IndexOutOfBoundsException") M) : AW sys l ab_Zt k_BF_found 6 90 0 [(0, .ref (0)), (1, .int (x))] [] M 0 0 Q := by
  refine aw_aload_n d_BF_found_0 rfl 0 rfl ?_
  refine aw_get (ic := 0) (ci := 0) (k := 3) (v := .ref 50) d_BF_found_1 rfl rfl (by decide) rfl mw_192 rfl ?_
  refine aw_iload_n d_BF_found_4 rfl 1 rfl ?_
  refine aw_callV (K' := k_RA_has) (As := [.int (x)]) (rest := []) (b := 50) d_BF_found_5 rfl rfl rfl cs_BF_192 rfl (Nat.le_of_ble_eq_true rfl) (Nat.le_of_ble_eq_true rfl) (by decide) (by decide) (d' := 0) (w' := 0) (by decide) (by decide) ?_
  show AW _ _ _ _ _ _ _ [(0, .ref (50)), (1, .int (x))] _ _ _ _ _
  refine aw_iload_n d_RA_has_0 rfl 1 rfl ?_
  refine az_lt rfl (tgt := 16) d_RA_has_1 (by decide) (fun c1 => ?_) (fun c1 => ?_)
  · skip
    refine aw_iconst (v := nI 0) d_RA_has_16 (by decide) ?_
    refine aw_zret (Or.inl rfl) d_RA_has_17 rfl (by decide) (by decide) (ab_go1 ?_)
    refine aw_if_neN (tgt := 21) d_BF_found_8 (by decide) (by omega) (fun c2 => ?_) (fun c2 => ?_)
    · skip
      exact absurd c2 (by decide)
    · skip
      refine th_IOO hl rfl d_BF_found_11 d_BF_found_14 d_BF_found_15 d_BF_found_17 d_BF_found_20 (List.mem_of_getElem? (i := 16) rfl) rfl (by decide) (by decide) (by decide) (by decide) ?_
      first | exact hQ | (exact hF (by omega)) | (exfalso; omega)
  · skip
    refine aw_iload_n d_RA_has_4 rfl 1 rfl ?_
    refine aw_aload_n d_RA_has_5 rfl 0 rfl ?_
    refine aw_get (ic := 50) (ci := 4) (k := 2) d_RA_has_6 rfl rfl (by decide) rfl mw_153 rfl ?_
    refine aw_eqi (nI (rn R)) rc.1 ?_
    refine at_ge rfl (nI_toInt (by omega)) (tgt := 16) d_RA_has_9 (by decide) (fun c3 => ?_) (fun c3 => ?_)
    · skip
      refine aw_iconst (v := nI 0) d_RA_has_16 (by decide) ?_
      refine aw_zret (Or.inl rfl) d_RA_has_17 rfl (by decide) (by decide) (ab_go1 ?_)
      refine aw_if_neN (tgt := 21) d_BF_found_8 (by decide) (by omega) (fun c4 => ?_) (fun c4 => ?_)
      · skip
        exact absurd c4 (by decide)
      · skip
        refine th_IOO hl rfl d_BF_found_11 d_BF_found_14 d_BF_found_15 d_BF_found_17 d_BF_found_20 (List.mem_of_getElem? (i := 16) rfl) rfl (by decide) (by decide) (by decide) (by decide) ?_
        first | exact hQ | (exact hF (by omega)) | (exfalso; omega)
    · skip
      refine aw_iconst (v := nI 1) d_RA_has_12 (by decide) ?_
      refine aw_goto (tgt := 17) d_RA_has_13 (by decide) ?_
      refine aw_zret (Or.inr rfl) d_RA_has_17 rfl (by decide) (by decide) (ab_go1 ?_)
      refine aw_if_neN (tgt := 21) d_BF_found_8 (by decide) (by omega) (fun c5 => ?_) (fun c5 => ?_)
      · skip
        exfalso; omega
      · skip
        exact absurd c5 (by decide)
set_option maxRecDepth 4000 in
theorem C_found {l : Launch} {M : ab_M} {Q : ab_O → ab_M → Prop} (hl : l.stackTraces = false) {R : Rg} (hn : rn R ≤ 12) (rc : iRC R M) {k : Nat} (hk : k < rn R) (hQ : Q (.inl (some (.int (nI (rd R k))))) M) : AW sys l ab_Zt k_BF_found 6 90 0 [(0, .ref (0)), (1, .int (nI (k)))] [] M 0 0 Q := by
  refine aw_aload_n d_BF_found_0 rfl 0 rfl ?_
  refine aw_get (ic := 0) (ci := 0) (k := 3) (v := .ref 50) d_BF_found_1 rfl rfl (by decide) rfl mw_192 rfl ?_
  refine aw_iload_n d_BF_found_4 rfl 1 rfl ?_
  refine aw_callV (K' := k_RA_has) (As := [.int (nI (k))]) (rest := []) (b := 50) d_BF_found_5 rfl rfl rfl cs_BF_192 rfl (Nat.le_of_ble_eq_true rfl) (Nat.le_of_ble_eq_true rfl) (by decide) (by decide) (d' := 0) (w' := 0) (by decide) (by decide) ?_
  show AW _ _ _ _ _ _ _ [(0, .ref (50)), (1, .int (nI (k)))] _ _ _ _ _
  refine aw_iload_n d_RA_has_0 rfl 1 rfl ?_
  refine aw_if_lt (tgt := 16) d_RA_has_1 (by decide) (fun c1 => ?_) (fun c1 => ?_)
  · skip
    exact absurd c1 (nI_pos (by omega))
  · skip
    refine aw_iload_n d_RA_has_4 rfl 1 rfl ?_
    refine aw_aload_n d_RA_has_5 rfl 0 rfl ?_
    refine aw_get (ic := 50) (ci := 4) (k := 2) d_RA_has_6 rfl rfl (by decide) rfl mw_153 rfl ?_
    refine aw_eqi (nI (rn R)) rc.1 ?_
    refine aw_icmp_geN (tgt := 16) d_RA_has_9 (by decide) (by omega) (by omega) (fun c2 => ?_) (fun c2 => ?_)
    · skip
      refine aw_iconst (v := nI 0) d_RA_has_16 (by decide) ?_
      refine aw_zret (Or.inl rfl) d_RA_has_17 rfl (by decide) (by decide) (ab_go1 ?_)
      refine aw_if_neN (tgt := 21) d_BF_found_8 (by decide) (by omega) (fun c3 => ?_) (fun c3 => ?_)
      · skip
        exact absurd c3 (by decide)
      · skip
        exfalso; omega
    · skip
      refine aw_iconst (v := nI 1) d_RA_has_12 (by decide) ?_
      refine aw_goto (tgt := 17) d_RA_has_13 (by decide) ?_
      refine aw_zret (Or.inr rfl) d_RA_has_17 rfl (by decide) (by decide) (ab_go1 ?_)
      refine aw_if_neN (tgt := 21) d_BF_found_8 (by decide) (by omega) (fun c4 => ?_) (fun c4 => ?_)
      · skip
        refine aw_aload_n d_BF_found_21 rfl 0 rfl ?_
        refine aw_get (ic := 0) (ci := 0) (k := 3) (v := .ref 50) d_BF_found_22 rfl rfl (by decide) rfl mw_192 rfl ?_
        refine aw_iload_n d_BF_found_25 rfl 1 rfl ?_
        refine aw_callV (K' := k_RA_documentAt) (As := [.int (nI (k))]) (rest := []) (b := 50) d_BF_found_26 rfl rfl rfl cs_BF_195 rfl (Nat.le_of_ble_eq_true rfl) (Nat.le_of_ble_eq_true rfl) (by decide) (by decide) (d' := 0) (w' := 0) (by decide) (by decide) ?_
        show AW _ _ _ _ _ _ _ [(0, .ref (50)), (1, .int (nI (k)))] _ _ _ _ _
        refine aw_aload_n d_RA_documentAt_0 rfl 0 rfl ?_
        refine aw_get (ic := 50) (ci := 4) (k := 0) (v := .ref 51) d_RA_documentAt_1 rfl rfl (by decide) rfl mw_151 rfl ?_
        refine aw_iload_n d_RA_documentAt_4 rfl 1 rfl ?_
        refine aw_ialdN d_RA_documentAt_5 rfl (by decide) (by omega) ?_
        refine aw_eqi (nI (rd R k)) (rc.2.2.1 _ (by omega)) ?_
        refine aw_iret d_RA_documentAt_6 rfl (by decide) (by decide) (ab_go1 ?_)
        refine aw_iret d_BF_found_29 rfl (by decide) (by decide) ?_
        exact hQ
      · skip
        exact absurd c4 (by decide)
set_option maxRecDepth 4000 in
theorem C_score_bad {l : Launch} {M : ab_M} {Q : ab_O → ab_M → Prop} (hl : l.stackTraces = false) {R : Rg} (hn : rn R ≤ 12) (rc : iRC R M) {x : Int32} (hb : x.toInt < 0 ∨ (rn R : Int) ≤ x.toInt) (hQ : Q (.inr "java/lang/IndexOutOfBoundsException") M) : AW sys l ab_Zt k_BF_score 6 90 0 [(0, .ref (0)), (1, .int (x))] [] M 0 0 Q := by
  refine aw_aload_n d_BF_score_0 rfl 0 rfl ?_
  refine aw_get (ic := 0) (ci := 0) (k := 3) (v := .ref 50) d_BF_score_1 rfl rfl (by decide) rfl mw_192 rfl ?_
  refine aw_iload_n d_BF_score_4 rfl 1 rfl ?_
  refine aw_callV (K' := k_RA_has) (As := [.int (x)]) (rest := []) (b := 50) d_BF_score_5 rfl rfl rfl cs_BF_192 rfl (Nat.le_of_ble_eq_true rfl) (Nat.le_of_ble_eq_true rfl) (by decide) (by decide) (d' := 0) (w' := 0) (by decide) (by decide) ?_
  show AW _ _ _ _ _ _ _ [(0, .ref (50)), (1, .int (x))] _ _ _ _ _
  refine aw_iload_n d_RA_has_0 rfl 1 rfl ?_
  refine az_lt rfl (tgt := 16) d_RA_has_1 (by decide) (fun c1 => ?_) (fun c1 => ?_)
  · skip
    refine aw_iconst (v := nI 0) d_RA_has_16 (by decide) ?_
    refine aw_zret (Or.inl rfl) d_RA_has_17 rfl (by decide) (by decide) (ab_go1 ?_)
    refine aw_if_neN (tgt := 21) d_BF_score_8 (by decide) (by omega) (fun c2 => ?_) (fun c2 => ?_)
    · skip
      exact absurd c2 (by decide)
    · skip
      refine th_IOO hl rfl d_BF_score_11 d_BF_score_14 d_BF_score_15 d_BF_score_17 d_BF_score_20 (List.mem_of_getElem? (i := 16) rfl) rfl (by decide) (by decide) (by decide) (by decide) ?_
      first | exact hQ | (exact hF (by omega)) | (exfalso; omega)
  · skip
    refine aw_iload_n d_RA_has_4 rfl 1 rfl ?_
    refine aw_aload_n d_RA_has_5 rfl 0 rfl ?_
    refine aw_get (ic := 50) (ci := 4) (k := 2) d_RA_has_6 rfl rfl (by decide) rfl mw_153 rfl ?_
    refine aw_eqi (nI (rn R)) rc.1 ?_
    refine at_ge rfl (nI_toInt (by omega)) (tgt := 16) d_RA_has_9 (by decide) (fun c3 => ?_) (fun c3 => ?_)
    · skip
      refine aw_iconst (v := nI 0) d_RA_has_16 (by decide) ?_
      refine aw_zret (Or.inl rfl) d_RA_has_17 rfl (by decide) (by decide) (ab_go1 ?_)
      refine aw_if_neN (tgt := 21) d_BF_score_8 (by decide) (by omega) (fun c4 => ?_) (fun c4 => ?_)
      · skip
        exact absurd c4 (by decide)
      · skip
        refine th_IOO hl rfl d_BF_score_11 d_BF_score_14 d_BF_score_15 d_BF_score_17 d_BF_score_20 (List.mem_of_getElem? (i := 16) rfl) rfl (by decide) (by decide) (by decide) (by decide) ?_
        first | exact hQ | (exact hF (by omega)) | (exfalso; omega)
    · skip
      refine aw_iconst (v := nI 1) d_RA_has_12 (by decide) ?_
      refine aw_goto (tgt := 17) d_RA_has_13 (by decide) ?_
      refine aw_zret (Or.inr rfl) d_RA_has_17 rfl (by decide) (by decide) (ab_go1 ?_)
      refine aw_if_neN (tgt := 21) d_BF_score_8 (by decide) (by omega) (fun c5 => ?_) (fun c5 => ?_)
      · skip
        exfalso; omega
      · skip
        exact absurd c5 (by decide)
set_option maxRecDepth 4000 in
theorem C_score {l : Launch} {M : ab_M} {Q : ab_O → ab_M → Prop} (hl : l.stackTraces = false) {R : Rg} (hn : rn R ≤ 12) (rc : iRC R M) {k : Nat} (hk : k < rn R) (hQ : Q (.inl (some (.double (rb R k)))) M) : AW sys l ab_Zt k_BF_score 6 90 0 [(0, .ref (0)), (1, .int (nI (k)))] [] M 0 0 Q := by
  refine aw_aload_n d_BF_score_0 rfl 0 rfl ?_
  refine aw_get (ic := 0) (ci := 0) (k := 3) (v := .ref 50) d_BF_score_1 rfl rfl (by decide) rfl mw_192 rfl ?_
  refine aw_iload_n d_BF_score_4 rfl 1 rfl ?_
  refine aw_callV (K' := k_RA_has) (As := [.int (nI (k))]) (rest := []) (b := 50) d_BF_score_5 rfl rfl rfl cs_BF_192 rfl (Nat.le_of_ble_eq_true rfl) (Nat.le_of_ble_eq_true rfl) (by decide) (by decide) (d' := 0) (w' := 0) (by decide) (by decide) ?_
  show AW _ _ _ _ _ _ _ [(0, .ref (50)), (1, .int (nI (k)))] _ _ _ _ _
  refine aw_iload_n d_RA_has_0 rfl 1 rfl ?_
  refine aw_if_lt (tgt := 16) d_RA_has_1 (by decide) (fun c1 => ?_) (fun c1 => ?_)
  · skip
    exact absurd c1 (nI_pos (by omega))
  · skip
    refine aw_iload_n d_RA_has_4 rfl 1 rfl ?_
    refine aw_aload_n d_RA_has_5 rfl 0 rfl ?_
    refine aw_get (ic := 50) (ci := 4) (k := 2) d_RA_has_6 rfl rfl (by decide) rfl mw_153 rfl ?_
    refine aw_eqi (nI (rn R)) rc.1 ?_
    refine aw_icmp_geN (tgt := 16) d_RA_has_9 (by decide) (by omega) (by omega) (fun c2 => ?_) (fun c2 => ?_)
    · skip
      refine aw_iconst (v := nI 0) d_RA_has_16 (by decide) ?_
      refine aw_zret (Or.inl rfl) d_RA_has_17 rfl (by decide) (by decide) (ab_go1 ?_)
      refine aw_if_neN (tgt := 21) d_BF_score_8 (by decide) (by omega) (fun c3 => ?_) (fun c3 => ?_)
      · skip
        exact absurd c3 (by decide)
      · skip
        exfalso; omega
    · skip
      refine aw_iconst (v := nI 1) d_RA_has_12 (by decide) ?_
      refine aw_goto (tgt := 17) d_RA_has_13 (by decide) ?_
      refine aw_zret (Or.inr rfl) d_RA_has_17 rfl (by decide) (by decide) (ab_go1 ?_)
      refine aw_if_neN (tgt := 21) d_BF_score_8 (by decide) (by omega) (fun c4 => ?_) (fun c4 => ?_)
      · skip
        refine aw_aload_n d_BF_score_21 rfl 0 rfl ?_
        refine aw_get (ic := 0) (ci := 0) (k := 3) (v := .ref 50) d_BF_score_22 rfl rfl (by decide) rfl mw_192 rfl ?_
        refine aw_iload_n d_BF_score_25 rfl 1 rfl ?_
        refine aw_callV (K' := k_RA_beliefAt) (As := [.int (nI (k))]) (rest := []) (b := 50) d_BF_score_26 rfl rfl rfl cs_BF_198 rfl (Nat.le_of_ble_eq_true rfl) (Nat.le_of_ble_eq_true rfl) (by decide) (by decide) (d' := 0) (w' := 0) (by decide) (by decide) ?_
        show AW _ _ _ _ _ _ _ [(0, .ref (50)), (1, .int (nI (k)))] _ _ _ _ _
        refine aw_aload_n d_RA_beliefAt_0 rfl 0 rfl ?_
        refine aw_get (ic := 50) (ci := 4) (k := 1) (v := .ref 52) d_RA_beliefAt_1 rfl rfl (by decide) rfl mw_152 rfl ?_
        refine aw_iload_n d_RA_beliefAt_4 rfl 1 rfl ?_
        refine aw_daldN d_RA_beliefAt_5 rfl (by decide) (by omega) ?_
        refine aw_eqd (rb R k) (rc.2.2.2 _ (by omega)) ?_
        refine aw_dret d_RA_beliefAt_6 rfl (by decide) (by decide) (ab_go1 ?_)
        refine aw_dret d_BF_score_29 rfl (by decide) (by decide) ?_
        exact hQ
      · skip
        exact absurd c4 (by decide)
set_option maxRecDepth 4000 in
theorem C_told_bad {l : Launch} {M : ab_M} {Q : ab_O → ab_M → Prop} (hl : l.stackTraces = false) {T : Qg} (wq : wQ T) (qc : iQC T M) {x y : Int32} (hb : x.toInt < 0 ∨ (qn T : Int) ≤ x.toInt) (hQ : Q (.inr "java/lang/IndexOutOfBoundsException") M) : AW sys l ab_Zt k_BF_told 6 90 0 [(0, .ref (0)), (1, .int (x)), (2, .int (y))] [] M 0 0 Q := by
  have h24 := wq.1
  refine aw_aload_n d_BF_told_0 rfl 0 rfl ?_
  refine aw_get (ic := 0) (ci := 0) (k := 1) (v := .ref 17) d_BF_told_1 rfl rfl (by decide) rfl mw_190 rfl ?_
  refine aw_iload_n d_BF_told_4 rfl 1 rfl ?_
  refine aw_callV (K' := k_QU_has) (As := [.int (x)]) (rest := []) (b := 17) d_BF_told_5 rfl rfl rfl cs_BF_167 rfl (Nat.le_of_ble_eq_true rfl) (Nat.le_of_ble_eq_true rfl) (by decide) (by decide) (d' := 0) (w' := 0) (by decide) (by decide) ?_
  show AW _ _ _ _ _ _ _ [(0, .ref (17)), (1, .int (x))] _ _ _ _ _
  refine aw_iload_n d_QU_has_0 rfl 1 rfl ?_
  refine az_lt rfl (tgt := 16) d_QU_has_1 (by decide) (fun c1 => ?_) (fun c1 => ?_)
  · skip
    refine aw_iconst (v := nI 0) d_QU_has_16 (by decide) ?_
    refine aw_zret (Or.inl rfl) d_QU_has_17 rfl (by decide) (by decide) (ab_go1 ?_)
    refine aw_if_neN (tgt := 21) d_BF_told_8 (by decide) (by omega) (fun c2 => ?_) (fun c2 => ?_)
    · skip
      exact absurd c2 (by decide)
    · skip
      refine th_IOO hl rfl d_BF_told_11 d_BF_told_14 d_BF_told_15 d_BF_told_17 d_BF_told_20 (List.mem_of_getElem? (i := 19) rfl) rfl (by decide) (by decide) (by decide) (by decide) ?_
      first | exact hQ | (exact hF (by omega)) | (exfalso; omega)
  · skip
    refine aw_iload_n d_QU_has_4 rfl 1 rfl ?_
    refine aw_aload_n d_QU_has_5 rfl 0 rfl ?_
    refine aw_get (ic := 17) (ci := 2) (k := 4) d_QU_has_6 rfl rfl (by decide) rfl mw_96 rfl ?_
    refine aw_eqi (nI (qn T)) qc.1 ?_
    refine at_ge rfl (nI_toInt (by omega)) (tgt := 16) d_QU_has_9 (by decide) (fun c3 => ?_) (fun c3 => ?_)
    · skip
      refine aw_iconst (v := nI 0) d_QU_has_16 (by decide) ?_
      refine aw_zret (Or.inl rfl) d_QU_has_17 rfl (by decide) (by decide) (ab_go1 ?_)
      refine aw_if_neN (tgt := 21) d_BF_told_8 (by decide) (by omega) (fun c4 => ?_) (fun c4 => ?_)
      · skip
        exact absurd c4 (by decide)
      · skip
        refine th_IOO hl rfl d_BF_told_11 d_BF_told_14 d_BF_told_15 d_BF_told_17 d_BF_told_20 (List.mem_of_getElem? (i := 19) rfl) rfl (by decide) (by decide) (by decide) (by decide) ?_
        first | exact hQ | (exact hF (by omega)) | (exfalso; omega)
    · skip
      refine aw_iconst (v := nI 1) d_QU_has_12 (by decide) ?_
      refine aw_goto (tgt := 17) d_QU_has_13 (by decide) ?_
      refine aw_zret (Or.inr rfl) d_QU_has_17 rfl (by decide) (by decide) (ab_go1 ?_)
      refine aw_if_neN (tgt := 21) d_BF_told_8 (by decide) (by omega) (fun c5 => ?_) (fun c5 => ?_)
      · skip
        exfalso; omega
      · skip
        exact absurd c5 (by decide)
set_option maxRecDepth 4000 in
theorem C_told_badw {l : Launch} {M : ab_M} {Q : ab_O → ab_M → Prop} (hl : l.stackTraces = false) {T : Qg} (wq : wQ T) (qc : iQC T M) {t : Nat} (ht : t < qn T) {y : Int32} (hb : y.toInt < 0 ∨ 2 < y.toInt) (hQ : Q (.inr "java/lang/IllegalArgumentException") M) : AW sys l ab_Zt k_BF_told 6 90 0 [(0, .ref (0)), (1, .int (nI (t))), (2, .int (y))] [] M 0 0 Q := by
  have h24 := wq.1
  refine aw_aload_n d_BF_told_0 rfl 0 rfl ?_
  refine aw_get (ic := 0) (ci := 0) (k := 1) (v := .ref 17) d_BF_told_1 rfl rfl (by decide) rfl mw_190 rfl ?_
  refine aw_iload_n d_BF_told_4 rfl 1 rfl ?_
  refine aw_callV (K' := k_QU_has) (As := [.int (nI (t))]) (rest := []) (b := 17) d_BF_told_5 rfl rfl rfl cs_BF_167 rfl (Nat.le_of_ble_eq_true rfl) (Nat.le_of_ble_eq_true rfl) (by decide) (by decide) (d' := 0) (w' := 0) (by decide) (by decide) ?_
  show AW _ _ _ _ _ _ _ [(0, .ref (17)), (1, .int (nI (t)))] _ _ _ _ _
  refine aw_iload_n d_QU_has_0 rfl 1 rfl ?_
  refine aw_if_lt (tgt := 16) d_QU_has_1 (by decide) (fun c1 => ?_) (fun c1 => ?_)
  · skip
    exact absurd c1 (nI_pos (by omega))
  · skip
    refine aw_iload_n d_QU_has_4 rfl 1 rfl ?_
    refine aw_aload_n d_QU_has_5 rfl 0 rfl ?_
    refine aw_get (ic := 17) (ci := 2) (k := 4) d_QU_has_6 rfl rfl (by decide) rfl mw_96 rfl ?_
    refine aw_eqi (nI (qn T)) qc.1 ?_
    refine aw_icmp_geN (tgt := 16) d_QU_has_9 (by decide) (by omega) (by omega) (fun c2 => ?_) (fun c2 => ?_)
    · skip
      refine aw_iconst (v := nI 0) d_QU_has_16 (by decide) ?_
      refine aw_zret (Or.inl rfl) d_QU_has_17 rfl (by decide) (by decide) (ab_go1 ?_)
      refine aw_if_neN (tgt := 21) d_BF_told_8 (by decide) (by omega) (fun c3 => ?_) (fun c3 => ?_)
      · skip
        exact absurd c3 (by decide)
      · skip
        exfalso; omega
    · skip
      refine aw_iconst (v := nI 1) d_QU_has_12 (by decide) ?_
      refine aw_goto (tgt := 17) d_QU_has_13 (by decide) ?_
      refine aw_zret (Or.inr rfl) d_QU_has_17 rfl (by decide) (by decide) (ab_go1 ?_)
      refine aw_if_neN (tgt := 21) d_BF_told_8 (by decide) (by omega) (fun c4 => ?_) (fun c4 => ?_)
      · skip
        refine aw_iload_n d_BF_told_21 rfl 2 rfl ?_
        by_cases c5 : (y).toInt = 0
        · refine aw_tabI 48 d_BF_told_22 (by rw [c5]; exact Or.inr ⟨_, by decide, by decide, rfl, by decide⟩) ?_
          exfalso; omega
        by_cases c6 : (y).toInt = 1
        · refine aw_tabI 58 d_BF_told_22 (by rw [c6]; exact Or.inr ⟨_, by decide, by decide, rfl, by decide⟩) ?_
          exfalso; omega
        by_cases c7 : (y).toInt = 2
        · refine aw_tabI 68 d_BF_told_22 (by rw [c7]; exact Or.inr ⟨_, by decide, by decide, rfl, by decide⟩) ?_
          exfalso; omega
        refine aw_tabI 77 d_BF_told_22 (Or.inl ⟨by omega, by decide⟩) ?_
        refine th_IAE hl rfl d_BF_told_77 d_BF_told_80 d_BF_told_81 d_BF_told_83 d_BF_told_86 (List.mem_of_getElem? (i := 20) rfl) rfl (by decide) (by decide) (by decide) (by decide) ?_
        first | exact hQ | (exact hF (by omega)) | (exfalso; omega)
      · skip
        exact absurd c4 (by decide)
set_option maxRecDepth 4000 in
theorem C_told0 {l : Launch} {M : ab_M} {Q : ab_O → ab_M → Prop} (hl : l.stackTraces = false) {T : Qg} (wq : wQ T) (qc : iQC T M) {t : Nat} (ht : t < qn T) (hQ : Q (.inl (some (.double (FP.i2d (nI (qk T t)))))) M) : AW sys l ab_Zt k_BF_told 6 90 0 [(0, .ref (0)), (1, .int (nI (t))), (2, .int (nI (0)))] [] M 0 0 Q := by
  have h24 := wq.1
  refine aw_aload_n d_BF_told_0 rfl 0 rfl ?_
  refine aw_get (ic := 0) (ci := 0) (k := 1) (v := .ref 17) d_BF_told_1 rfl rfl (by decide) rfl mw_190 rfl ?_
  refine aw_iload_n d_BF_told_4 rfl 1 rfl ?_
  refine aw_callV (K' := k_QU_has) (As := [.int (nI (t))]) (rest := []) (b := 17) d_BF_told_5 rfl rfl rfl cs_BF_167 rfl (Nat.le_of_ble_eq_true rfl) (Nat.le_of_ble_eq_true rfl) (by decide) (by decide) (d' := 0) (w' := 0) (by decide) (by decide) ?_
  show AW _ _ _ _ _ _ _ [(0, .ref (17)), (1, .int (nI (t)))] _ _ _ _ _
  refine aw_iload_n d_QU_has_0 rfl 1 rfl ?_
  refine aw_if_lt (tgt := 16) d_QU_has_1 (by decide) (fun c1 => ?_) (fun c1 => ?_)
  · skip
    exact absurd c1 (nI_pos (by omega))
  · skip
    refine aw_iload_n d_QU_has_4 rfl 1 rfl ?_
    refine aw_aload_n d_QU_has_5 rfl 0 rfl ?_
    refine aw_get (ic := 17) (ci := 2) (k := 4) d_QU_has_6 rfl rfl (by decide) rfl mw_96 rfl ?_
    refine aw_eqi (nI (qn T)) qc.1 ?_
    refine aw_icmp_geN (tgt := 16) d_QU_has_9 (by decide) (by omega) (by omega) (fun c2 => ?_) (fun c2 => ?_)
    · skip
      refine aw_iconst (v := nI 0) d_QU_has_16 (by decide) ?_
      refine aw_zret (Or.inl rfl) d_QU_has_17 rfl (by decide) (by decide) (ab_go1 ?_)
      refine aw_if_neN (tgt := 21) d_BF_told_8 (by decide) (by omega) (fun c3 => ?_) (fun c3 => ?_)
      · skip
        exact absurd c3 (by decide)
      · skip
        exfalso; omega
    · skip
      refine aw_iconst (v := nI 1) d_QU_has_12 (by decide) ?_
      refine aw_goto (tgt := 17) d_QU_has_13 (by decide) ?_
      refine aw_zret (Or.inr rfl) d_QU_has_17 rfl (by decide) (by decide) (ab_go1 ?_)
      refine aw_if_neN (tgt := 21) d_BF_told_8 (by decide) (by omega) (fun c4 => ?_) (fun c4 => ?_)
      · skip
        refine aw_iload_n d_BF_told_21 rfl 2 rfl ?_
        refine aw_tabN 48 (by decide) d_BF_told_22 (Or.inr ⟨_, by decide, by decide, rfl, by decide⟩) ?_
        refine aw_aload_n d_BF_told_48 rfl 0 rfl ?_
        refine aw_get (ic := 0) (ci := 0) (k := 1) (v := .ref 17) d_BF_told_49 rfl rfl (by decide) rfl mw_190 rfl ?_
        refine aw_iload_n d_BF_told_52 rfl 1 rfl ?_
        refine aw_callV (K' := k_QU_kindOf) (As := [.int (nI (t))]) (rest := []) (b := 17) d_BF_told_53 rfl rfl rfl cs_BF_170 rfl (Nat.le_of_ble_eq_true rfl) (Nat.le_of_ble_eq_true rfl) (by decide) (by decide) (d' := 0) (w' := 0) (by decide) (by decide) ?_
        show AW _ _ _ _ _ _ _ [(0, .ref (17)), (1, .int (nI (t)))] _ _ _ _ _
        refine aw_aload_n d_QU_kindOf_0 rfl 0 rfl ?_
        refine aw_get (ic := 17) (ci := 2) (k := 0) (v := .ref 18) d_QU_kindOf_1 rfl rfl (by decide) rfl mw_92 rfl ?_
        refine aw_iload_n d_QU_kindOf_4 rfl 1 rfl ?_
        refine aw_ialdN d_QU_kindOf_5 rfl (by decide) (by omega) ?_
        refine aw_eqi (nI (qk T t)) (qc.2.1 _ (by omega)) ?_
        refine aw_iret d_QU_kindOf_6 rfl (by decide) (by decide) (ab_go1 ?_)
        refine aw_i2d d_BF_told_56 ?_
        refine aw_dret d_BF_told_57 rfl (by decide) (by decide) ?_
        exact hQ
      · skip
        exact absurd c4 (by decide)
set_option maxRecDepth 4000 in
theorem C_told1 {l : Launch} {M : ab_M} {Q : ab_O → ab_M → Prop} (hl : l.stackTraces = false) {T : Qg} (wq : wQ T) (qc : iQC T M) {t : Nat} (ht : t < qn T) (hQ : Q (.inl (some (.double (FP.i2d (nI (qa T t)))))) M) : AW sys l ab_Zt k_BF_told 6 90 0 [(0, .ref (0)), (1, .int (nI (t))), (2, .int (nI (1)))] [] M 0 0 Q := by
  have h24 := wq.1
  refine aw_aload_n d_BF_told_0 rfl 0 rfl ?_
  refine aw_get (ic := 0) (ci := 0) (k := 1) (v := .ref 17) d_BF_told_1 rfl rfl (by decide) rfl mw_190 rfl ?_
  refine aw_iload_n d_BF_told_4 rfl 1 rfl ?_
  refine aw_callV (K' := k_QU_has) (As := [.int (nI (t))]) (rest := []) (b := 17) d_BF_told_5 rfl rfl rfl cs_BF_167 rfl (Nat.le_of_ble_eq_true rfl) (Nat.le_of_ble_eq_true rfl) (by decide) (by decide) (d' := 0) (w' := 0) (by decide) (by decide) ?_
  show AW _ _ _ _ _ _ _ [(0, .ref (17)), (1, .int (nI (t)))] _ _ _ _ _
  refine aw_iload_n d_QU_has_0 rfl 1 rfl ?_
  refine aw_if_lt (tgt := 16) d_QU_has_1 (by decide) (fun c1 => ?_) (fun c1 => ?_)
  · skip
    exact absurd c1 (nI_pos (by omega))
  · skip
    refine aw_iload_n d_QU_has_4 rfl 1 rfl ?_
    refine aw_aload_n d_QU_has_5 rfl 0 rfl ?_
    refine aw_get (ic := 17) (ci := 2) (k := 4) d_QU_has_6 rfl rfl (by decide) rfl mw_96 rfl ?_
    refine aw_eqi (nI (qn T)) qc.1 ?_
    refine aw_icmp_geN (tgt := 16) d_QU_has_9 (by decide) (by omega) (by omega) (fun c2 => ?_) (fun c2 => ?_)
    · skip
      refine aw_iconst (v := nI 0) d_QU_has_16 (by decide) ?_
      refine aw_zret (Or.inl rfl) d_QU_has_17 rfl (by decide) (by decide) (ab_go1 ?_)
      refine aw_if_neN (tgt := 21) d_BF_told_8 (by decide) (by omega) (fun c3 => ?_) (fun c3 => ?_)
      · skip
        exact absurd c3 (by decide)
      · skip
        exfalso; omega
    · skip
      refine aw_iconst (v := nI 1) d_QU_has_12 (by decide) ?_
      refine aw_goto (tgt := 17) d_QU_has_13 (by decide) ?_
      refine aw_zret (Or.inr rfl) d_QU_has_17 rfl (by decide) (by decide) (ab_go1 ?_)
      refine aw_if_neN (tgt := 21) d_BF_told_8 (by decide) (by omega) (fun c4 => ?_) (fun c4 => ?_)
      · skip
        refine aw_iload_n d_BF_told_21 rfl 2 rfl ?_
        refine aw_tabN 58 (by decide) d_BF_told_22 (Or.inr ⟨_, by decide, by decide, rfl, by decide⟩) ?_
        refine aw_aload_n d_BF_told_58 rfl 0 rfl ?_
        refine aw_get (ic := 0) (ci := 0) (k := 1) (v := .ref 17) d_BF_told_59 rfl rfl (by decide) rfl mw_190 rfl ?_
        refine aw_iload_n d_BF_told_62 rfl 1 rfl ?_
        refine aw_callV (K' := k_QU_numberOf) (As := [.int (nI (t))]) (rest := []) (b := 17) d_BF_told_63 rfl rfl rfl cs_BF_216 rfl (Nat.le_of_ble_eq_true rfl) (Nat.le_of_ble_eq_true rfl) (by decide) (by decide) (d' := 0) (w' := 0) (by decide) (by decide) ?_
        show AW _ _ _ _ _ _ _ [(0, .ref (17)), (1, .int (nI (t)))] _ _ _ _ _
        refine aw_aload_n d_QU_numberOf_0 rfl 0 rfl ?_
        refine aw_get (ic := 17) (ci := 2) (k := 1) (v := .ref 19) d_QU_numberOf_1 rfl rfl (by decide) rfl mw_93 rfl ?_
        refine aw_iload_n d_QU_numberOf_4 rfl 1 rfl ?_
        refine aw_ialdN d_QU_numberOf_5 rfl (by decide) (by omega) ?_
        refine aw_eqi (nI (qa T t)) (qc.2.2.1 _ (by omega)) ?_
        refine aw_iret d_QU_numberOf_6 rfl (by decide) (by decide) (ab_go1 ?_)
        refine aw_i2d d_BF_told_66 ?_
        refine aw_dret d_BF_told_67 rfl (by decide) (by decide) ?_
        exact hQ
      · skip
        exact absurd c4 (by decide)
set_option maxRecDepth 4000 in
theorem C_told2 {l : Launch} {M : ab_M} {Q : ab_O → ab_M → Prop} (hl : l.stackTraces = false) {T : Qg} (wq : wQ T) (qc : iQC T M) {t : Nat} (ht : t < qn T) (hQ : Q (.inl (some (.double (qw T t)))) M) : AW sys l ab_Zt k_BF_told 6 90 0 [(0, .ref (0)), (1, .int (nI (t))), (2, .int (nI (2)))] [] M 0 0 Q := by
  have h24 := wq.1
  refine aw_aload_n d_BF_told_0 rfl 0 rfl ?_
  refine aw_get (ic := 0) (ci := 0) (k := 1) (v := .ref 17) d_BF_told_1 rfl rfl (by decide) rfl mw_190 rfl ?_
  refine aw_iload_n d_BF_told_4 rfl 1 rfl ?_
  refine aw_callV (K' := k_QU_has) (As := [.int (nI (t))]) (rest := []) (b := 17) d_BF_told_5 rfl rfl rfl cs_BF_167 rfl (Nat.le_of_ble_eq_true rfl) (Nat.le_of_ble_eq_true rfl) (by decide) (by decide) (d' := 0) (w' := 0) (by decide) (by decide) ?_
  show AW _ _ _ _ _ _ _ [(0, .ref (17)), (1, .int (nI (t)))] _ _ _ _ _
  refine aw_iload_n d_QU_has_0 rfl 1 rfl ?_
  refine aw_if_lt (tgt := 16) d_QU_has_1 (by decide) (fun c1 => ?_) (fun c1 => ?_)
  · skip
    exact absurd c1 (nI_pos (by omega))
  · skip
    refine aw_iload_n d_QU_has_4 rfl 1 rfl ?_
    refine aw_aload_n d_QU_has_5 rfl 0 rfl ?_
    refine aw_get (ic := 17) (ci := 2) (k := 4) d_QU_has_6 rfl rfl (by decide) rfl mw_96 rfl ?_
    refine aw_eqi (nI (qn T)) qc.1 ?_
    refine aw_icmp_geN (tgt := 16) d_QU_has_9 (by decide) (by omega) (by omega) (fun c2 => ?_) (fun c2 => ?_)
    · skip
      refine aw_iconst (v := nI 0) d_QU_has_16 (by decide) ?_
      refine aw_zret (Or.inl rfl) d_QU_has_17 rfl (by decide) (by decide) (ab_go1 ?_)
      refine aw_if_neN (tgt := 21) d_BF_told_8 (by decide) (by omega) (fun c3 => ?_) (fun c3 => ?_)
      · skip
        exact absurd c3 (by decide)
      · skip
        exfalso; omega
    · skip
      refine aw_iconst (v := nI 1) d_QU_has_12 (by decide) ?_
      refine aw_goto (tgt := 17) d_QU_has_13 (by decide) ?_
      refine aw_zret (Or.inr rfl) d_QU_has_17 rfl (by decide) (by decide) (ab_go1 ?_)
      refine aw_if_neN (tgt := 21) d_BF_told_8 (by decide) (by omega) (fun c4 => ?_) (fun c4 => ?_)
      · skip
        refine aw_iload_n d_BF_told_21 rfl 2 rfl ?_
        refine aw_tabN 68 (by decide) d_BF_told_22 (Or.inr ⟨_, by decide, by decide, rfl, by decide⟩) ?_
        refine aw_aload_n d_BF_told_68 rfl 0 rfl ?_
        refine aw_get (ic := 0) (ci := 0) (k := 1) (v := .ref 17) d_BF_told_69 rfl rfl (by decide) rfl mw_190 rfl ?_
        refine aw_iload_n d_BF_told_72 rfl 1 rfl ?_
        refine aw_callV (K' := k_QU_weightOf) (As := [.int (nI (t))]) (rest := []) (b := 17) d_BF_told_73 rfl rfl rfl cs_BF_219 rfl (Nat.le_of_ble_eq_true rfl) (Nat.le_of_ble_eq_true rfl) (by decide) (by decide) (d' := 0) (w' := 0) (by decide) (by decide) ?_
        show AW _ _ _ _ _ _ _ [(0, .ref (17)), (1, .int (nI (t)))] _ _ _ _ _
        refine aw_aload_n d_QU_weightOf_0 rfl 0 rfl ?_
        refine aw_get (ic := 17) (ci := 2) (k := 2) (v := .ref 20) d_QU_weightOf_1 rfl rfl (by decide) rfl mw_94 rfl ?_
        refine aw_iload_n d_QU_weightOf_4 rfl 1 rfl ?_
        refine aw_daldN d_QU_weightOf_5 rfl (by decide) (by omega) ?_
        refine aw_eqd (qw T t) (qc.2.2.2.1 _ (by omega)) ?_
        refine aw_dret d_QU_weightOf_6 rfl (by decide) (by decide) (ab_go1 ?_)
        refine aw_dret d_BF_told_76 rfl (by decide) (by decide) ?_
        exact hQ
      · skip
        exact absurd c4 (by decide)
set_option maxRecDepth 4000 in
theorem C_count_bad {l : Launch} {M : ab_M} {Q : ab_O → ab_M → Prop} (hl : l.stackTraces = false) {D : Dg} {T : Qg} {R : Rg} (wd : wD D) (dc : iDC D M) (wq : wQ T) (qc : iQC T M) (hn : rn R ≤ 12) (ho : ro R ≤ 12) (rc : iRC R M) {x : Int32} (h0 : x.toInt < 0 ∨ 4 < x.toInt) (h1 : x.toInt < 10 ∨ 21 < x.toInt) (h2 : x.toInt < 30 ∨ 45 < x.toInt) (hQ : Q (.inr "java/lang/IllegalArgumentException") M) : AW sys l ab_Zt k_BF_count 6 90 0 [(0, .ref (0)), (1, .int (x))] [] M 0 0 Q := by
  have h12 := wd.1
  have h24 := wq.1
  have hal := all_le wd
  refine aw_iload_n d_BF_count_0 rfl 1 rfl ?_
  refine aw_bipush (v := nI 10) d_BF_count_1 (by decide) ?_
  refine at_lt rfl (nI_toInt (by omega)) (tgt := 24) d_BF_count_3 (by decide) (fun c1 => ?_) (fun c1 => ?_)
  · skip
    refine aw_iload_n d_BF_count_24 rfl 1 rfl ?_
    refine aw_bipush (v := nI 30) d_BF_count_25 (by decide) ?_
    refine at_lt rfl (nI_toInt (by omega)) (tgt := 48) d_BF_count_27 (by decide) (fun c2 => ?_) (fun c2 => ?_)
    · skip
      refine aw_iload_n d_BF_count_48 rfl 1 rfl ?_
      by_cases c3 : (x).toInt = 0
      · refine aw_tabI 84 d_BF_count_49 (by rw [c3]; exact Or.inr ⟨_, by decide, by decide, rfl, by decide⟩) ?_
        exfalso; omega
      by_cases c4 : (x).toInt = 1
      · refine aw_tabI 92 d_BF_count_49 (by rw [c4]; exact Or.inr ⟨_, by decide, by decide, rfl, by decide⟩) ?_
        exfalso; omega
      by_cases c5 : (x).toInt = 2
      · refine aw_tabI 100 d_BF_count_49 (by rw [c5]; exact Or.inr ⟨_, by decide, by decide, rfl, by decide⟩) ?_
        exfalso; omega
      by_cases c6 : (x).toInt = 3
      · refine aw_tabI 108 d_BF_count_49 (by rw [c6]; exact Or.inr ⟨_, by decide, by decide, rfl, by decide⟩) ?_
        exfalso; omega
      by_cases c7 : (x).toInt = 4
      · refine aw_tabI 116 d_BF_count_49 (by rw [c7]; exact Or.inr ⟨_, by decide, by decide, rfl, by decide⟩) ?_
        exfalso; omega
      refine aw_tabI 124 d_BF_count_49 (Or.inl ⟨by omega, by decide⟩) ?_
      refine th_IAE hl rfl d_BF_count_124 d_BF_count_127 d_BF_count_128 d_BF_count_130 d_BF_count_133 (List.mem_of_getElem? (i := 21) rfl) rfl (by decide) (by decide) (by decide) (by decide) ?_
      first | exact hQ | (exact hF (by omega)) | (exfalso; omega)
    · skip
      refine aw_iload_n d_BF_count_30 rfl 1 rfl ?_
      refine aw_bipush (v := nI 46) d_BF_count_31 (by decide) ?_
      refine at_ge rfl (nI_toInt (by omega)) (tgt := 48) d_BF_count_33 (by decide) (fun c8 => ?_) (fun c8 => ?_)
      · skip
        refine aw_iload_n d_BF_count_48 rfl 1 rfl ?_
        by_cases c9 : (x).toInt = 0
        · refine aw_tabI 84 d_BF_count_49 (by rw [c9]; exact Or.inr ⟨_, by decide, by decide, rfl, by decide⟩) ?_
          exfalso; omega
        by_cases c10 : (x).toInt = 1
        · refine aw_tabI 92 d_BF_count_49 (by rw [c10]; exact Or.inr ⟨_, by decide, by decide, rfl, by decide⟩) ?_
          exfalso; omega
        by_cases c11 : (x).toInt = 2
        · refine aw_tabI 100 d_BF_count_49 (by rw [c11]; exact Or.inr ⟨_, by decide, by decide, rfl, by decide⟩) ?_
          exfalso; omega
        by_cases c12 : (x).toInt = 3
        · refine aw_tabI 108 d_BF_count_49 (by rw [c12]; exact Or.inr ⟨_, by decide, by decide, rfl, by decide⟩) ?_
          exfalso; omega
        by_cases c13 : (x).toInt = 4
        · refine aw_tabI 116 d_BF_count_49 (by rw [c13]; exact Or.inr ⟨_, by decide, by decide, rfl, by decide⟩) ?_
          exfalso; omega
        refine aw_tabI 124 d_BF_count_49 (Or.inl ⟨by omega, by decide⟩) ?_
        refine th_IAE hl rfl d_BF_count_124 d_BF_count_127 d_BF_count_128 d_BF_count_130 d_BF_count_133 (List.mem_of_getElem? (i := 21) rfl) rfl (by decide) (by decide) (by decide) (by decide) ?_
        first | exact hQ | (exact hF (by omega)) | (exfalso; omega)
      · skip
        exfalso; omega
  · skip
    refine aw_iload_n d_BF_count_6 rfl 1 rfl ?_
    refine aw_bipush (v := nI 22) d_BF_count_7 (by decide) ?_
    refine at_ge rfl (nI_toInt (by omega)) (tgt := 24) d_BF_count_9 (by decide) (fun c14 => ?_) (fun c14 => ?_)
    · skip
      refine aw_iload_n d_BF_count_24 rfl 1 rfl ?_
      refine aw_bipush (v := nI 30) d_BF_count_25 (by decide) ?_
      refine at_lt rfl (nI_toInt (by omega)) (tgt := 48) d_BF_count_27 (by decide) (fun c15 => ?_) (fun c15 => ?_)
      · skip
        refine aw_iload_n d_BF_count_48 rfl 1 rfl ?_
        by_cases c16 : (x).toInt = 0
        · refine aw_tabI 84 d_BF_count_49 (by rw [c16]; exact Or.inr ⟨_, by decide, by decide, rfl, by decide⟩) ?_
          exfalso; omega
        by_cases c17 : (x).toInt = 1
        · refine aw_tabI 92 d_BF_count_49 (by rw [c17]; exact Or.inr ⟨_, by decide, by decide, rfl, by decide⟩) ?_
          exfalso; omega
        by_cases c18 : (x).toInt = 2
        · refine aw_tabI 100 d_BF_count_49 (by rw [c18]; exact Or.inr ⟨_, by decide, by decide, rfl, by decide⟩) ?_
          exfalso; omega
        by_cases c19 : (x).toInt = 3
        · refine aw_tabI 108 d_BF_count_49 (by rw [c19]; exact Or.inr ⟨_, by decide, by decide, rfl, by decide⟩) ?_
          exfalso; omega
        by_cases c20 : (x).toInt = 4
        · refine aw_tabI 116 d_BF_count_49 (by rw [c20]; exact Or.inr ⟨_, by decide, by decide, rfl, by decide⟩) ?_
          exfalso; omega
        refine aw_tabI 124 d_BF_count_49 (Or.inl ⟨by omega, by decide⟩) ?_
        refine th_IAE hl rfl d_BF_count_124 d_BF_count_127 d_BF_count_128 d_BF_count_130 d_BF_count_133 (List.mem_of_getElem? (i := 21) rfl) rfl (by decide) (by decide) (by decide) (by decide) ?_
        first | exact hQ | (exact hF (by omega)) | (exfalso; omega)
      · skip
        refine aw_iload_n d_BF_count_30 rfl 1 rfl ?_
        refine aw_bipush (v := nI 46) d_BF_count_31 (by decide) ?_
        refine at_ge rfl (nI_toInt (by omega)) (tgt := 48) d_BF_count_33 (by decide) (fun c21 => ?_) (fun c21 => ?_)
        · skip
          refine aw_iload_n d_BF_count_48 rfl 1 rfl ?_
          by_cases c22 : (x).toInt = 0
          · refine aw_tabI 84 d_BF_count_49 (by rw [c22]; exact Or.inr ⟨_, by decide, by decide, rfl, by decide⟩) ?_
            exfalso; omega
          by_cases c23 : (x).toInt = 1
          · refine aw_tabI 92 d_BF_count_49 (by rw [c23]; exact Or.inr ⟨_, by decide, by decide, rfl, by decide⟩) ?_
            exfalso; omega
          by_cases c24 : (x).toInt = 2
          · refine aw_tabI 100 d_BF_count_49 (by rw [c24]; exact Or.inr ⟨_, by decide, by decide, rfl, by decide⟩) ?_
            exfalso; omega
          by_cases c25 : (x).toInt = 3
          · refine aw_tabI 108 d_BF_count_49 (by rw [c25]; exact Or.inr ⟨_, by decide, by decide, rfl, by decide⟩) ?_
            exfalso; omega
          by_cases c26 : (x).toInt = 4
          · refine aw_tabI 116 d_BF_count_49 (by rw [c26]; exact Or.inr ⟨_, by decide, by decide, rfl, by decide⟩) ?_
            exfalso; omega
          refine aw_tabI 124 d_BF_count_49 (Or.inl ⟨by omega, by decide⟩) ?_
          refine th_IAE hl rfl d_BF_count_124 d_BF_count_127 d_BF_count_128 d_BF_count_130 d_BF_count_133 (List.mem_of_getElem? (i := 21) rfl) rfl (by decide) (by decide) (by decide) (by decide) ?_
          first | exact hQ | (exact hF (by omega)) | (exfalso; omega)
        · skip
          exfalso; omega
    · skip
      exfalso; omega
set_option maxRecDepth 4000 in
theorem C_count_len {l : Launch} {M : ab_M} {Q : ab_O → ab_M → Prop} (hl : l.stackTraces = false) {D : Dg} {T : Qg} {R : Rg} (wd : wD D) (dc : iDC D M) (wq : wQ T) (qc : iQC T M) (hn : rn R ≤ 12) (ho : ro R ≤ 12) (rc : iRC R M) {d : Nat} (hd : d < 12) (hQ : Q (.inl (some (.int (nI (dl D d))))) M) : AW sys l ab_Zt k_BF_count 6 90 0 [(0, .ref (0)), (1, .int (nI (10 + d)))] [] M 0 0 Q := by
  have h12 := wd.1
  have h24 := wq.1
  have hal := all_le wd
  refine aw_iload_n d_BF_count_0 rfl 1 rfl ?_
  refine aw_bipush (v := nI 10) d_BF_count_1 (by decide) ?_
  refine aw_icmp_ltN (tgt := 24) d_BF_count_3 (by decide) (by omega) (by omega) (fun c1 => ?_) (fun c1 => ?_)
  · skip
    exfalso; omega
  · skip
    refine aw_iload_n d_BF_count_6 rfl 1 rfl ?_
    refine aw_bipush (v := nI 22) d_BF_count_7 (by decide) ?_
    refine aw_icmp_geN (tgt := 24) d_BF_count_9 (by decide) (by omega) (by omega) (fun c2 => ?_) (fun c2 => ?_)
    · skip
      exfalso; omega
    · skip
      refine aw_aload_n d_BF_count_12 rfl 0 rfl ?_
      refine aw_get (ic := 0) (ci := 0) (k := 0) (v := .ref 1) d_BF_count_13 rfl rfl (by decide) rfl mw_189 rfl ?_
      refine aw_iload_n d_BF_count_16 rfl 1 rfl ?_
      refine aw_bipush (v := nI 10) d_BF_count_17 (by decide) ?_
      refine aw_isubN d_BF_count_19 (by omega) ?_
      refine aw_callV (K' := k_TX_lengthOf) (As := [.int (nI ((10 + d) - 10))]) (rest := []) (b := 1) d_BF_count_20 rfl rfl rfl cs_BF_138 rfl (Nat.le_of_ble_eq_true rfl) (Nat.le_of_ble_eq_true rfl) (by decide) (by decide) (d' := 0) (w' := 0) (by decide) (by decide) ?_
      show AW _ _ _ _ _ _ _ [(0, .ref (1)), (1, .int (nI ((10 + d) - 10)))] _ _ _ _ _
      refine aw_aload_n d_TX_lengthOf_0 rfl 0 rfl ?_
      refine aw_get (ic := 1) (ci := 1) (k := 1) (v := .ref 15) d_TX_lengthOf_1 rfl rfl (by decide) rfl mw_70 rfl ?_
      refine aw_iload_n d_TX_lengthOf_4 rfl 1 rfl ?_
      refine aw_ialdN d_TX_lengthOf_5 rfl (by decide) (by omega) ?_
      refine aw_eqi (nI (dl D ((10 + d) - 10))) (dc.2.2.1 _ (by omega)) ?_
      refine aw_iret d_TX_lengthOf_6 rfl (by decide) (by decide) (ab_go1 ?_)
      refine aw_iret d_BF_count_23 rfl (by decide) (by decide) ?_
      exact q_n (by rw [show 10 + d - 10 = d by omega]) hQ
set_option maxRecDepth 4000 in
theorem C_count_word {l : Launch} {M : ab_M} {Q : ab_O → ab_M → Prop} (hl : l.stackTraces = false) {D : Dg} {T : Qg} {R : Rg} (wd : wD D) (dc : iDC D M) (wq : wQ T) (qc : iQC T M) (hn : rn R ≤ 12) (ho : ro R ≤ 12) (rc : iRC R M) {v : Nat} (hv : v < 16) (hQ : Q (.inl (some (.int (nI (ps (fun e => cn (fw D e v) (dl D e)) (dn D)))))) M) : AW sys l ab_Zt k_BF_count 6 90 0 [(0, .ref (0)), (1, .int (nI (30 + v)))] [] M 0 0 Q := by
  have h12 := wd.1
  have h24 := wq.1
  have hal := all_le wd
  refine aw_iload_n d_BF_count_0 rfl 1 rfl ?_
  refine aw_bipush (v := nI 10) d_BF_count_1 (by decide) ?_
  refine aw_icmp_ltN (tgt := 24) d_BF_count_3 (by decide) (by omega) (by omega) (fun c1 => ?_) (fun c1 => ?_)
  · skip
    refine aw_iload_n d_BF_count_24 rfl 1 rfl ?_
    refine aw_bipush (v := nI 30) d_BF_count_25 (by decide) ?_
    refine aw_icmp_ltN (tgt := 48) d_BF_count_27 (by decide) (by omega) (by omega) (fun c2 => ?_) (fun c2 => ?_)
    · skip
      exfalso; omega
    · skip
      refine aw_iload_n d_BF_count_30 rfl 1 rfl ?_
      refine aw_bipush (v := nI 46) d_BF_count_31 (by decide) ?_
      refine aw_icmp_geN (tgt := 48) d_BF_count_33 (by decide) (by omega) (by omega) (fun c3 => ?_) (fun c3 => ?_)
      · skip
        exfalso; omega
      · skip
        refine aw_aload_n d_BF_count_36 rfl 0 rfl ?_
        refine aw_get (ic := 0) (ci := 0) (k := 0) (v := .ref 1) d_BF_count_37 rfl rfl (by decide) rfl mw_189 rfl ?_
        refine aw_iload_n d_BF_count_40 rfl 1 rfl ?_
        refine aw_bipush (v := nI 30) d_BF_count_41 (by decide) ?_
        refine aw_isubN d_BF_count_43 (by omega) ?_
        refine aw_callV (K' := k_TX_timesInAll) (As := [.int (nI ((30 + v) - 30))]) (rest := []) (b := 1) d_BF_count_44 rfl rfl rfl cs_BF_224 rfl (Nat.le_of_ble_eq_true rfl) (Nat.le_of_ble_eq_true rfl) (by decide) (by decide) (d' := 1) (w' := 24) (by decide) (by decide) ?_
        show AW _ _ _ _ _ _ _ [(0, .ref (1)), (1, .int (nI ((30 + v) - 30)))] _ _ _ _ _
        refine A_TX_timesInAll wd dc (by omega) ?_
        refine ab_go1 ?_
        refine aw_iret d_BF_count_47 rfl (by decide) (by decide) ?_
        exact q_n (by rw [show 30 + v - 30 = v by omega]) hQ
  · skip
    refine aw_iload_n d_BF_count_6 rfl 1 rfl ?_
    refine aw_bipush (v := nI 22) d_BF_count_7 (by decide) ?_
    refine aw_icmp_geN (tgt := 24) d_BF_count_9 (by decide) (by omega) (by omega) (fun c4 => ?_) (fun c4 => ?_)
    · skip
      refine aw_iload_n d_BF_count_24 rfl 1 rfl ?_
      refine aw_bipush (v := nI 30) d_BF_count_25 (by decide) ?_
      refine aw_icmp_ltN (tgt := 48) d_BF_count_27 (by decide) (by omega) (by omega) (fun c5 => ?_) (fun c5 => ?_)
      · skip
        exfalso; omega
      · skip
        refine aw_iload_n d_BF_count_30 rfl 1 rfl ?_
        refine aw_bipush (v := nI 46) d_BF_count_31 (by decide) ?_
        refine aw_icmp_geN (tgt := 48) d_BF_count_33 (by decide) (by omega) (by omega) (fun c6 => ?_) (fun c6 => ?_)
        · skip
          exfalso; omega
        · skip
          refine aw_aload_n d_BF_count_36 rfl 0 rfl ?_
          refine aw_get (ic := 0) (ci := 0) (k := 0) (v := .ref 1) d_BF_count_37 rfl rfl (by decide) rfl mw_189 rfl ?_
          refine aw_iload_n d_BF_count_40 rfl 1 rfl ?_
          refine aw_bipush (v := nI 30) d_BF_count_41 (by decide) ?_
          refine aw_isubN d_BF_count_43 (by omega) ?_
          refine aw_callV (K' := k_TX_timesInAll) (As := [.int (nI ((30 + v) - 30))]) (rest := []) (b := 1) d_BF_count_44 rfl rfl rfl cs_BF_224 rfl (Nat.le_of_ble_eq_true rfl) (Nat.le_of_ble_eq_true rfl) (by decide) (by decide) (d' := 1) (w' := 24) (by decide) (by decide) ?_
          show AW _ _ _ _ _ _ _ [(0, .ref (1)), (1, .int (nI ((30 + v) - 30)))] _ _ _ _ _
          refine A_TX_timesInAll wd dc (by omega) ?_
          refine ab_go1 ?_
          refine aw_iret d_BF_count_47 rfl (by decide) (by decide) ?_
          exact q_n (by rw [show 30 + v - 30 = v by omega]) hQ
    · skip
      exfalso; omega
set_option maxRecDepth 4000 in
theorem C_count0 {l : Launch} {M : ab_M} {Q : ab_O → ab_M → Prop} (hl : l.stackTraces = false) {D : Dg} {T : Qg} {R : Rg} (wd : wD D) (dc : iDC D M) (wq : wQ T) (qc : iQC T M) (hn : rn R ≤ 12) (ho : ro R ≤ 12) (rc : iRC R M) (hQ : Q (.inl (some (.int (nI (dn D))))) M) : AW sys l ab_Zt k_BF_count 6 90 0 [(0, .ref (0)), (1, .int (nI (0)))] [] M 0 0 Q := by
  have h12 := wd.1
  have h24 := wq.1
  have hal := all_le wd
  refine aw_iload_n d_BF_count_0 rfl 1 rfl ?_
  refine aw_bipush (v := nI 10) d_BF_count_1 (by decide) ?_
  refine aw_icmp_ltN (tgt := 24) d_BF_count_3 (by decide) (by omega) (by omega) (fun c1 => ?_) (fun c1 => ?_)
  · skip
    refine aw_iload_n d_BF_count_24 rfl 1 rfl ?_
    refine aw_bipush (v := nI 30) d_BF_count_25 (by decide) ?_
    refine aw_icmp_ltN (tgt := 48) d_BF_count_27 (by decide) (by omega) (by omega) (fun c2 => ?_) (fun c2 => ?_)
    · skip
      refine aw_iload_n d_BF_count_48 rfl 1 rfl ?_
      refine aw_tabN 84 (by decide) d_BF_count_49 (Or.inr ⟨_, by decide, by decide, rfl, by decide⟩) ?_
      refine aw_aload_n d_BF_count_84 rfl 0 rfl ?_
      refine aw_get (ic := 0) (ci := 0) (k := 0) (v := .ref 1) d_BF_count_85 rfl rfl (by decide) rfl mw_189 rfl ?_
      refine aw_callV (K' := k_TX_size) (As := []) (rest := []) (b := 1) d_BF_count_88 rfl rfl rfl cs_BF_185 rfl (Nat.le_of_ble_eq_true rfl) (Nat.le_of_ble_eq_true rfl) (by decide) (by decide) (d' := 0) (w' := 0) (by decide) (by decide) ?_
      show AW _ _ _ _ _ _ _ [(0, .ref (1))] _ _ _ _ _
      refine aw_aload_n d_TX_size_0 rfl 0 rfl ?_
      refine aw_get (ic := 1) (ci := 1) (k := 3) d_TX_size_1 rfl rfl (by decide) rfl mw_72 rfl ?_
      refine aw_eqi (nI (dn D)) dc.1 ?_
      refine aw_iret d_TX_size_4 rfl (by decide) (by decide) (ab_go1 ?_)
      refine aw_iret d_BF_count_91 rfl (by decide) (by decide) ?_
      exact hQ
    · skip
      refine aw_iload_n d_BF_count_30 rfl 1 rfl ?_
      refine aw_bipush (v := nI 46) d_BF_count_31 (by decide) ?_
      refine aw_icmp_geN (tgt := 48) d_BF_count_33 (by decide) (by omega) (by omega) (fun c3 => ?_) (fun c3 => ?_)
      · skip
        refine aw_iload_n d_BF_count_48 rfl 1 rfl ?_
        refine aw_tabN 84 (by decide) d_BF_count_49 (Or.inr ⟨_, by decide, by decide, rfl, by decide⟩) ?_
        refine aw_aload_n d_BF_count_84 rfl 0 rfl ?_
        refine aw_get (ic := 0) (ci := 0) (k := 0) (v := .ref 1) d_BF_count_85 rfl rfl (by decide) rfl mw_189 rfl ?_
        refine aw_callV (K' := k_TX_size) (As := []) (rest := []) (b := 1) d_BF_count_88 rfl rfl rfl cs_BF_185 rfl (Nat.le_of_ble_eq_true rfl) (Nat.le_of_ble_eq_true rfl) (by decide) (by decide) (d' := 0) (w' := 0) (by decide) (by decide) ?_
        show AW _ _ _ _ _ _ _ [(0, .ref (1))] _ _ _ _ _
        refine aw_aload_n d_TX_size_0 rfl 0 rfl ?_
        refine aw_get (ic := 1) (ci := 1) (k := 3) d_TX_size_1 rfl rfl (by decide) rfl mw_72 rfl ?_
        refine aw_eqi (nI (dn D)) dc.1 ?_
        refine aw_iret d_TX_size_4 rfl (by decide) (by decide) (ab_go1 ?_)
        refine aw_iret d_BF_count_91 rfl (by decide) (by decide) ?_
        exact hQ
      · skip
        exfalso; omega
  · skip
    refine aw_iload_n d_BF_count_6 rfl 1 rfl ?_
    refine aw_bipush (v := nI 22) d_BF_count_7 (by decide) ?_
    refine aw_icmp_geN (tgt := 24) d_BF_count_9 (by decide) (by omega) (by omega) (fun c4 => ?_) (fun c4 => ?_)
    · skip
      refine aw_iload_n d_BF_count_24 rfl 1 rfl ?_
      refine aw_bipush (v := nI 30) d_BF_count_25 (by decide) ?_
      refine aw_icmp_ltN (tgt := 48) d_BF_count_27 (by decide) (by omega) (by omega) (fun c5 => ?_) (fun c5 => ?_)
      · skip
        refine aw_iload_n d_BF_count_48 rfl 1 rfl ?_
        refine aw_tabN 84 (by decide) d_BF_count_49 (Or.inr ⟨_, by decide, by decide, rfl, by decide⟩) ?_
        refine aw_aload_n d_BF_count_84 rfl 0 rfl ?_
        refine aw_get (ic := 0) (ci := 0) (k := 0) (v := .ref 1) d_BF_count_85 rfl rfl (by decide) rfl mw_189 rfl ?_
        refine aw_callV (K' := k_TX_size) (As := []) (rest := []) (b := 1) d_BF_count_88 rfl rfl rfl cs_BF_185 rfl (Nat.le_of_ble_eq_true rfl) (Nat.le_of_ble_eq_true rfl) (by decide) (by decide) (d' := 0) (w' := 0) (by decide) (by decide) ?_
        show AW _ _ _ _ _ _ _ [(0, .ref (1))] _ _ _ _ _
        refine aw_aload_n d_TX_size_0 rfl 0 rfl ?_
        refine aw_get (ic := 1) (ci := 1) (k := 3) d_TX_size_1 rfl rfl (by decide) rfl mw_72 rfl ?_
        refine aw_eqi (nI (dn D)) dc.1 ?_
        refine aw_iret d_TX_size_4 rfl (by decide) (by decide) (ab_go1 ?_)
        refine aw_iret d_BF_count_91 rfl (by decide) (by decide) ?_
        exact hQ
      · skip
        refine aw_iload_n d_BF_count_30 rfl 1 rfl ?_
        refine aw_bipush (v := nI 46) d_BF_count_31 (by decide) ?_
        refine aw_icmp_geN (tgt := 48) d_BF_count_33 (by decide) (by omega) (by omega) (fun c6 => ?_) (fun c6 => ?_)
        · skip
          refine aw_iload_n d_BF_count_48 rfl 1 rfl ?_
          refine aw_tabN 84 (by decide) d_BF_count_49 (Or.inr ⟨_, by decide, by decide, rfl, by decide⟩) ?_
          refine aw_aload_n d_BF_count_84 rfl 0 rfl ?_
          refine aw_get (ic := 0) (ci := 0) (k := 0) (v := .ref 1) d_BF_count_85 rfl rfl (by decide) rfl mw_189 rfl ?_
          refine aw_callV (K' := k_TX_size) (As := []) (rest := []) (b := 1) d_BF_count_88 rfl rfl rfl cs_BF_185 rfl (Nat.le_of_ble_eq_true rfl) (Nat.le_of_ble_eq_true rfl) (by decide) (by decide) (d' := 0) (w' := 0) (by decide) (by decide) ?_
          show AW _ _ _ _ _ _ _ [(0, .ref (1))] _ _ _ _ _
          refine aw_aload_n d_TX_size_0 rfl 0 rfl ?_
          refine aw_get (ic := 1) (ci := 1) (k := 3) d_TX_size_1 rfl rfl (by decide) rfl mw_72 rfl ?_
          refine aw_eqi (nI (dn D)) dc.1 ?_
          refine aw_iret d_TX_size_4 rfl (by decide) (by decide) (ab_go1 ?_)
          refine aw_iret d_BF_count_91 rfl (by decide) (by decide) ?_
          exact hQ
        · skip
          exfalso; omega
    · skip
      exfalso; omega
set_option maxRecDepth 4000 in
theorem C_count1 {l : Launch} {M : ab_M} {Q : ab_O → ab_M → Prop} (hl : l.stackTraces = false) {D : Dg} {T : Qg} {R : Rg} (wd : wD D) (dc : iDC D M) (wq : wQ T) (qc : iQC T M) (hn : rn R ≤ 12) (ho : ro R ≤ 12) (rc : iRC R M) (hQ : Q (.inl (some (.int (nI (dall D))))) M) : AW sys l ab_Zt k_BF_count 6 90 0 [(0, .ref (0)), (1, .int (nI (1)))] [] M 0 0 Q := by
  have h12 := wd.1
  have h24 := wq.1
  have hal := all_le wd
  refine aw_iload_n d_BF_count_0 rfl 1 rfl ?_
  refine aw_bipush (v := nI 10) d_BF_count_1 (by decide) ?_
  refine aw_icmp_ltN (tgt := 24) d_BF_count_3 (by decide) (by omega) (by omega) (fun c1 => ?_) (fun c1 => ?_)
  · skip
    refine aw_iload_n d_BF_count_24 rfl 1 rfl ?_
    refine aw_bipush (v := nI 30) d_BF_count_25 (by decide) ?_
    refine aw_icmp_ltN (tgt := 48) d_BF_count_27 (by decide) (by omega) (by omega) (fun c2 => ?_) (fun c2 => ?_)
    · skip
      refine aw_iload_n d_BF_count_48 rfl 1 rfl ?_
      refine aw_tabN 92 (by decide) d_BF_count_49 (Or.inr ⟨_, by decide, by decide, rfl, by decide⟩) ?_
      refine aw_aload_n d_BF_count_92 rfl 0 rfl ?_
      refine aw_get (ic := 0) (ci := 0) (k := 0) (v := .ref 1) d_BF_count_93 rfl rfl (by decide) rfl mw_189 rfl ?_
      refine aw_callV (K' := k_TX_all) (As := []) (rest := []) (b := 1) d_BF_count_96 rfl rfl rfl cs_BF_227 rfl (Nat.le_of_ble_eq_true rfl) (Nat.le_of_ble_eq_true rfl) (by decide) (by decide) (d' := 0) (w' := 0) (by decide) (by decide) ?_
      show AW _ _ _ _ _ _ _ [(0, .ref (1))] _ _ _ _ _
      refine aw_aload_n d_TX_all_0 rfl 0 rfl ?_
      refine aw_get (ic := 1) (ci := 1) (k := 4) d_TX_all_1 rfl rfl (by decide) rfl mw_73 rfl ?_
      refine aw_eqi (nI (dall D)) dc.2.1 ?_
      refine aw_iret d_TX_all_4 rfl (by decide) (by decide) (ab_go1 ?_)
      refine aw_iret d_BF_count_99 rfl (by decide) (by decide) ?_
      exact hQ
    · skip
      refine aw_iload_n d_BF_count_30 rfl 1 rfl ?_
      refine aw_bipush (v := nI 46) d_BF_count_31 (by decide) ?_
      refine aw_icmp_geN (tgt := 48) d_BF_count_33 (by decide) (by omega) (by omega) (fun c3 => ?_) (fun c3 => ?_)
      · skip
        refine aw_iload_n d_BF_count_48 rfl 1 rfl ?_
        refine aw_tabN 92 (by decide) d_BF_count_49 (Or.inr ⟨_, by decide, by decide, rfl, by decide⟩) ?_
        refine aw_aload_n d_BF_count_92 rfl 0 rfl ?_
        refine aw_get (ic := 0) (ci := 0) (k := 0) (v := .ref 1) d_BF_count_93 rfl rfl (by decide) rfl mw_189 rfl ?_
        refine aw_callV (K' := k_TX_all) (As := []) (rest := []) (b := 1) d_BF_count_96 rfl rfl rfl cs_BF_227 rfl (Nat.le_of_ble_eq_true rfl) (Nat.le_of_ble_eq_true rfl) (by decide) (by decide) (d' := 0) (w' := 0) (by decide) (by decide) ?_
        show AW _ _ _ _ _ _ _ [(0, .ref (1))] _ _ _ _ _
        refine aw_aload_n d_TX_all_0 rfl 0 rfl ?_
        refine aw_get (ic := 1) (ci := 1) (k := 4) d_TX_all_1 rfl rfl (by decide) rfl mw_73 rfl ?_
        refine aw_eqi (nI (dall D)) dc.2.1 ?_
        refine aw_iret d_TX_all_4 rfl (by decide) (by decide) (ab_go1 ?_)
        refine aw_iret d_BF_count_99 rfl (by decide) (by decide) ?_
        exact hQ
      · skip
        exfalso; omega
  · skip
    refine aw_iload_n d_BF_count_6 rfl 1 rfl ?_
    refine aw_bipush (v := nI 22) d_BF_count_7 (by decide) ?_
    refine aw_icmp_geN (tgt := 24) d_BF_count_9 (by decide) (by omega) (by omega) (fun c4 => ?_) (fun c4 => ?_)
    · skip
      refine aw_iload_n d_BF_count_24 rfl 1 rfl ?_
      refine aw_bipush (v := nI 30) d_BF_count_25 (by decide) ?_
      refine aw_icmp_ltN (tgt := 48) d_BF_count_27 (by decide) (by omega) (by omega) (fun c5 => ?_) (fun c5 => ?_)
      · skip
        refine aw_iload_n d_BF_count_48 rfl 1 rfl ?_
        refine aw_tabN 92 (by decide) d_BF_count_49 (Or.inr ⟨_, by decide, by decide, rfl, by decide⟩) ?_
        refine aw_aload_n d_BF_count_92 rfl 0 rfl ?_
        refine aw_get (ic := 0) (ci := 0) (k := 0) (v := .ref 1) d_BF_count_93 rfl rfl (by decide) rfl mw_189 rfl ?_
        refine aw_callV (K' := k_TX_all) (As := []) (rest := []) (b := 1) d_BF_count_96 rfl rfl rfl cs_BF_227 rfl (Nat.le_of_ble_eq_true rfl) (Nat.le_of_ble_eq_true rfl) (by decide) (by decide) (d' := 0) (w' := 0) (by decide) (by decide) ?_
        show AW _ _ _ _ _ _ _ [(0, .ref (1))] _ _ _ _ _
        refine aw_aload_n d_TX_all_0 rfl 0 rfl ?_
        refine aw_get (ic := 1) (ci := 1) (k := 4) d_TX_all_1 rfl rfl (by decide) rfl mw_73 rfl ?_
        refine aw_eqi (nI (dall D)) dc.2.1 ?_
        refine aw_iret d_TX_all_4 rfl (by decide) (by decide) (ab_go1 ?_)
        refine aw_iret d_BF_count_99 rfl (by decide) (by decide) ?_
        exact hQ
      · skip
        refine aw_iload_n d_BF_count_30 rfl 1 rfl ?_
        refine aw_bipush (v := nI 46) d_BF_count_31 (by decide) ?_
        refine aw_icmp_geN (tgt := 48) d_BF_count_33 (by decide) (by omega) (by omega) (fun c6 => ?_) (fun c6 => ?_)
        · skip
          refine aw_iload_n d_BF_count_48 rfl 1 rfl ?_
          refine aw_tabN 92 (by decide) d_BF_count_49 (Or.inr ⟨_, by decide, by decide, rfl, by decide⟩) ?_
          refine aw_aload_n d_BF_count_92 rfl 0 rfl ?_
          refine aw_get (ic := 0) (ci := 0) (k := 0) (v := .ref 1) d_BF_count_93 rfl rfl (by decide) rfl mw_189 rfl ?_
          refine aw_callV (K' := k_TX_all) (As := []) (rest := []) (b := 1) d_BF_count_96 rfl rfl rfl cs_BF_227 rfl (Nat.le_of_ble_eq_true rfl) (Nat.le_of_ble_eq_true rfl) (by decide) (by decide) (d' := 0) (w' := 0) (by decide) (by decide) ?_
          show AW _ _ _ _ _ _ _ [(0, .ref (1))] _ _ _ _ _
          refine aw_aload_n d_TX_all_0 rfl 0 rfl ?_
          refine aw_get (ic := 1) (ci := 1) (k := 4) d_TX_all_1 rfl rfl (by decide) rfl mw_73 rfl ?_
          refine aw_eqi (nI (dall D)) dc.2.1 ?_
          refine aw_iret d_TX_all_4 rfl (by decide) (by decide) (ab_go1 ?_)
          refine aw_iret d_BF_count_99 rfl (by decide) (by decide) ?_
          exact hQ
        · skip
          exfalso; omega
    · skip
      exfalso; omega
set_option maxRecDepth 4000 in
theorem C_count2 {l : Launch} {M : ab_M} {Q : ab_O → ab_M → Prop} (hl : l.stackTraces = false) {D : Dg} {T : Qg} {R : Rg} (wd : wD D) (dc : iDC D M) (wq : wQ T) (qc : iQC T M) (hn : rn R ≤ 12) (ho : ro R ≤ 12) (rc : iRC R M) (hQ : Q (.inl (some (.int (nI (qn T))))) M) : AW sys l ab_Zt k_BF_count 6 90 0 [(0, .ref (0)), (1, .int (nI (2)))] [] M 0 0 Q := by
  have h12 := wd.1
  have h24 := wq.1
  have hal := all_le wd
  refine aw_iload_n d_BF_count_0 rfl 1 rfl ?_
  refine aw_bipush (v := nI 10) d_BF_count_1 (by decide) ?_
  refine aw_icmp_ltN (tgt := 24) d_BF_count_3 (by decide) (by omega) (by omega) (fun c1 => ?_) (fun c1 => ?_)
  · skip
    refine aw_iload_n d_BF_count_24 rfl 1 rfl ?_
    refine aw_bipush (v := nI 30) d_BF_count_25 (by decide) ?_
    refine aw_icmp_ltN (tgt := 48) d_BF_count_27 (by decide) (by omega) (by omega) (fun c2 => ?_) (fun c2 => ?_)
    · skip
      refine aw_iload_n d_BF_count_48 rfl 1 rfl ?_
      refine aw_tabN 100 (by decide) d_BF_count_49 (Or.inr ⟨_, by decide, by decide, rfl, by decide⟩) ?_
      refine aw_aload_n d_BF_count_100 rfl 0 rfl ?_
      refine aw_get (ic := 0) (ci := 0) (k := 1) (v := .ref 17) d_BF_count_101 rfl rfl (by decide) rfl mw_190 rfl ?_
      refine aw_callV (K' := k_QU_size) (As := []) (rest := []) (b := 17) d_BF_count_104 rfl rfl rfl cs_BF_125 rfl (Nat.le_of_ble_eq_true rfl) (Nat.le_of_ble_eq_true rfl) (by decide) (by decide) (d' := 0) (w' := 0) (by decide) (by decide) ?_
      show AW _ _ _ _ _ _ _ [(0, .ref (17))] _ _ _ _ _
      refine aw_aload_n d_QU_size_0 rfl 0 rfl ?_
      refine aw_get (ic := 17) (ci := 2) (k := 4) d_QU_size_1 rfl rfl (by decide) rfl mw_96 rfl ?_
      refine aw_eqi (nI (qn T)) qc.1 ?_
      refine aw_iret d_QU_size_4 rfl (by decide) (by decide) (ab_go1 ?_)
      refine aw_iret d_BF_count_107 rfl (by decide) (by decide) ?_
      exact hQ
    · skip
      refine aw_iload_n d_BF_count_30 rfl 1 rfl ?_
      refine aw_bipush (v := nI 46) d_BF_count_31 (by decide) ?_
      refine aw_icmp_geN (tgt := 48) d_BF_count_33 (by decide) (by omega) (by omega) (fun c3 => ?_) (fun c3 => ?_)
      · skip
        refine aw_iload_n d_BF_count_48 rfl 1 rfl ?_
        refine aw_tabN 100 (by decide) d_BF_count_49 (Or.inr ⟨_, by decide, by decide, rfl, by decide⟩) ?_
        refine aw_aload_n d_BF_count_100 rfl 0 rfl ?_
        refine aw_get (ic := 0) (ci := 0) (k := 1) (v := .ref 17) d_BF_count_101 rfl rfl (by decide) rfl mw_190 rfl ?_
        refine aw_callV (K' := k_QU_size) (As := []) (rest := []) (b := 17) d_BF_count_104 rfl rfl rfl cs_BF_125 rfl (Nat.le_of_ble_eq_true rfl) (Nat.le_of_ble_eq_true rfl) (by decide) (by decide) (d' := 0) (w' := 0) (by decide) (by decide) ?_
        show AW _ _ _ _ _ _ _ [(0, .ref (17))] _ _ _ _ _
        refine aw_aload_n d_QU_size_0 rfl 0 rfl ?_
        refine aw_get (ic := 17) (ci := 2) (k := 4) d_QU_size_1 rfl rfl (by decide) rfl mw_96 rfl ?_
        refine aw_eqi (nI (qn T)) qc.1 ?_
        refine aw_iret d_QU_size_4 rfl (by decide) (by decide) (ab_go1 ?_)
        refine aw_iret d_BF_count_107 rfl (by decide) (by decide) ?_
        exact hQ
      · skip
        exfalso; omega
  · skip
    refine aw_iload_n d_BF_count_6 rfl 1 rfl ?_
    refine aw_bipush (v := nI 22) d_BF_count_7 (by decide) ?_
    refine aw_icmp_geN (tgt := 24) d_BF_count_9 (by decide) (by omega) (by omega) (fun c4 => ?_) (fun c4 => ?_)
    · skip
      refine aw_iload_n d_BF_count_24 rfl 1 rfl ?_
      refine aw_bipush (v := nI 30) d_BF_count_25 (by decide) ?_
      refine aw_icmp_ltN (tgt := 48) d_BF_count_27 (by decide) (by omega) (by omega) (fun c5 => ?_) (fun c5 => ?_)
      · skip
        refine aw_iload_n d_BF_count_48 rfl 1 rfl ?_
        refine aw_tabN 100 (by decide) d_BF_count_49 (Or.inr ⟨_, by decide, by decide, rfl, by decide⟩) ?_
        refine aw_aload_n d_BF_count_100 rfl 0 rfl ?_
        refine aw_get (ic := 0) (ci := 0) (k := 1) (v := .ref 17) d_BF_count_101 rfl rfl (by decide) rfl mw_190 rfl ?_
        refine aw_callV (K' := k_QU_size) (As := []) (rest := []) (b := 17) d_BF_count_104 rfl rfl rfl cs_BF_125 rfl (Nat.le_of_ble_eq_true rfl) (Nat.le_of_ble_eq_true rfl) (by decide) (by decide) (d' := 0) (w' := 0) (by decide) (by decide) ?_
        show AW _ _ _ _ _ _ _ [(0, .ref (17))] _ _ _ _ _
        refine aw_aload_n d_QU_size_0 rfl 0 rfl ?_
        refine aw_get (ic := 17) (ci := 2) (k := 4) d_QU_size_1 rfl rfl (by decide) rfl mw_96 rfl ?_
        refine aw_eqi (nI (qn T)) qc.1 ?_
        refine aw_iret d_QU_size_4 rfl (by decide) (by decide) (ab_go1 ?_)
        refine aw_iret d_BF_count_107 rfl (by decide) (by decide) ?_
        exact hQ
      · skip
        refine aw_iload_n d_BF_count_30 rfl 1 rfl ?_
        refine aw_bipush (v := nI 46) d_BF_count_31 (by decide) ?_
        refine aw_icmp_geN (tgt := 48) d_BF_count_33 (by decide) (by omega) (by omega) (fun c6 => ?_) (fun c6 => ?_)
        · skip
          refine aw_iload_n d_BF_count_48 rfl 1 rfl ?_
          refine aw_tabN 100 (by decide) d_BF_count_49 (Or.inr ⟨_, by decide, by decide, rfl, by decide⟩) ?_
          refine aw_aload_n d_BF_count_100 rfl 0 rfl ?_
          refine aw_get (ic := 0) (ci := 0) (k := 1) (v := .ref 17) d_BF_count_101 rfl rfl (by decide) rfl mw_190 rfl ?_
          refine aw_callV (K' := k_QU_size) (As := []) (rest := []) (b := 17) d_BF_count_104 rfl rfl rfl cs_BF_125 rfl (Nat.le_of_ble_eq_true rfl) (Nat.le_of_ble_eq_true rfl) (by decide) (by decide) (d' := 0) (w' := 0) (by decide) (by decide) ?_
          show AW _ _ _ _ _ _ _ [(0, .ref (17))] _ _ _ _ _
          refine aw_aload_n d_QU_size_0 rfl 0 rfl ?_
          refine aw_get (ic := 17) (ci := 2) (k := 4) d_QU_size_1 rfl rfl (by decide) rfl mw_96 rfl ?_
          refine aw_eqi (nI (qn T)) qc.1 ?_
          refine aw_iret d_QU_size_4 rfl (by decide) (by decide) (ab_go1 ?_)
          refine aw_iret d_BF_count_107 rfl (by decide) (by decide) ?_
          exact hQ
        · skip
          exfalso; omega
    · skip
      exfalso; omega
set_option maxRecDepth 4000 in
theorem C_count3 {l : Launch} {M : ab_M} {Q : ab_O → ab_M → Prop} (hl : l.stackTraces = false) {D : Dg} {T : Qg} {R : Rg} (wd : wD D) (dc : iDC D M) (wq : wQ T) (qc : iQC T M) (hn : rn R ≤ 12) (ho : ro R ≤ 12) (rc : iRC R M) (hQ : Q (.inl (some (.int (nI (rn R))))) M) : AW sys l ab_Zt k_BF_count 6 90 0 [(0, .ref (0)), (1, .int (nI (3)))] [] M 0 0 Q := by
  have h12 := wd.1
  have h24 := wq.1
  have hal := all_le wd
  refine aw_iload_n d_BF_count_0 rfl 1 rfl ?_
  refine aw_bipush (v := nI 10) d_BF_count_1 (by decide) ?_
  refine aw_icmp_ltN (tgt := 24) d_BF_count_3 (by decide) (by omega) (by omega) (fun c1 => ?_) (fun c1 => ?_)
  · skip
    refine aw_iload_n d_BF_count_24 rfl 1 rfl ?_
    refine aw_bipush (v := nI 30) d_BF_count_25 (by decide) ?_
    refine aw_icmp_ltN (tgt := 48) d_BF_count_27 (by decide) (by omega) (by omega) (fun c2 => ?_) (fun c2 => ?_)
    · skip
      refine aw_iload_n d_BF_count_48 rfl 1 rfl ?_
      refine aw_tabN 108 (by decide) d_BF_count_49 (Or.inr ⟨_, by decide, by decide, rfl, by decide⟩) ?_
      refine aw_aload_n d_BF_count_108 rfl 0 rfl ?_
      refine aw_get (ic := 0) (ci := 0) (k := 3) (v := .ref 50) d_BF_count_109 rfl rfl (by decide) rfl mw_192 rfl ?_
      refine aw_callV (K' := k_RA_size) (As := []) (rest := []) (b := 50) d_BF_count_112 rfl rfl rfl cs_BF_204 rfl (Nat.le_of_ble_eq_true rfl) (Nat.le_of_ble_eq_true rfl) (by decide) (by decide) (d' := 0) (w' := 0) (by decide) (by decide) ?_
      show AW _ _ _ _ _ _ _ [(0, .ref (50))] _ _ _ _ _
      refine aw_aload_n d_RA_size_0 rfl 0 rfl ?_
      refine aw_get (ic := 50) (ci := 4) (k := 2) d_RA_size_1 rfl rfl (by decide) rfl mw_153 rfl ?_
      refine aw_eqi (nI (rn R)) rc.1 ?_
      refine aw_iret d_RA_size_4 rfl (by decide) (by decide) (ab_go1 ?_)
      refine aw_iret d_BF_count_115 rfl (by decide) (by decide) ?_
      exact hQ
    · skip
      refine aw_iload_n d_BF_count_30 rfl 1 rfl ?_
      refine aw_bipush (v := nI 46) d_BF_count_31 (by decide) ?_
      refine aw_icmp_geN (tgt := 48) d_BF_count_33 (by decide) (by omega) (by omega) (fun c3 => ?_) (fun c3 => ?_)
      · skip
        refine aw_iload_n d_BF_count_48 rfl 1 rfl ?_
        refine aw_tabN 108 (by decide) d_BF_count_49 (Or.inr ⟨_, by decide, by decide, rfl, by decide⟩) ?_
        refine aw_aload_n d_BF_count_108 rfl 0 rfl ?_
        refine aw_get (ic := 0) (ci := 0) (k := 3) (v := .ref 50) d_BF_count_109 rfl rfl (by decide) rfl mw_192 rfl ?_
        refine aw_callV (K' := k_RA_size) (As := []) (rest := []) (b := 50) d_BF_count_112 rfl rfl rfl cs_BF_204 rfl (Nat.le_of_ble_eq_true rfl) (Nat.le_of_ble_eq_true rfl) (by decide) (by decide) (d' := 0) (w' := 0) (by decide) (by decide) ?_
        show AW _ _ _ _ _ _ _ [(0, .ref (50))] _ _ _ _ _
        refine aw_aload_n d_RA_size_0 rfl 0 rfl ?_
        refine aw_get (ic := 50) (ci := 4) (k := 2) d_RA_size_1 rfl rfl (by decide) rfl mw_153 rfl ?_
        refine aw_eqi (nI (rn R)) rc.1 ?_
        refine aw_iret d_RA_size_4 rfl (by decide) (by decide) (ab_go1 ?_)
        refine aw_iret d_BF_count_115 rfl (by decide) (by decide) ?_
        exact hQ
      · skip
        exfalso; omega
  · skip
    refine aw_iload_n d_BF_count_6 rfl 1 rfl ?_
    refine aw_bipush (v := nI 22) d_BF_count_7 (by decide) ?_
    refine aw_icmp_geN (tgt := 24) d_BF_count_9 (by decide) (by omega) (by omega) (fun c4 => ?_) (fun c4 => ?_)
    · skip
      refine aw_iload_n d_BF_count_24 rfl 1 rfl ?_
      refine aw_bipush (v := nI 30) d_BF_count_25 (by decide) ?_
      refine aw_icmp_ltN (tgt := 48) d_BF_count_27 (by decide) (by omega) (by omega) (fun c5 => ?_) (fun c5 => ?_)
      · skip
        refine aw_iload_n d_BF_count_48 rfl 1 rfl ?_
        refine aw_tabN 108 (by decide) d_BF_count_49 (Or.inr ⟨_, by decide, by decide, rfl, by decide⟩) ?_
        refine aw_aload_n d_BF_count_108 rfl 0 rfl ?_
        refine aw_get (ic := 0) (ci := 0) (k := 3) (v := .ref 50) d_BF_count_109 rfl rfl (by decide) rfl mw_192 rfl ?_
        refine aw_callV (K' := k_RA_size) (As := []) (rest := []) (b := 50) d_BF_count_112 rfl rfl rfl cs_BF_204 rfl (Nat.le_of_ble_eq_true rfl) (Nat.le_of_ble_eq_true rfl) (by decide) (by decide) (d' := 0) (w' := 0) (by decide) (by decide) ?_
        show AW _ _ _ _ _ _ _ [(0, .ref (50))] _ _ _ _ _
        refine aw_aload_n d_RA_size_0 rfl 0 rfl ?_
        refine aw_get (ic := 50) (ci := 4) (k := 2) d_RA_size_1 rfl rfl (by decide) rfl mw_153 rfl ?_
        refine aw_eqi (nI (rn R)) rc.1 ?_
        refine aw_iret d_RA_size_4 rfl (by decide) (by decide) (ab_go1 ?_)
        refine aw_iret d_BF_count_115 rfl (by decide) (by decide) ?_
        exact hQ
      · skip
        refine aw_iload_n d_BF_count_30 rfl 1 rfl ?_
        refine aw_bipush (v := nI 46) d_BF_count_31 (by decide) ?_
        refine aw_icmp_geN (tgt := 48) d_BF_count_33 (by decide) (by omega) (by omega) (fun c6 => ?_) (fun c6 => ?_)
        · skip
          refine aw_iload_n d_BF_count_48 rfl 1 rfl ?_
          refine aw_tabN 108 (by decide) d_BF_count_49 (Or.inr ⟨_, by decide, by decide, rfl, by decide⟩) ?_
          refine aw_aload_n d_BF_count_108 rfl 0 rfl ?_
          refine aw_get (ic := 0) (ci := 0) (k := 3) (v := .ref 50) d_BF_count_109 rfl rfl (by decide) rfl mw_192 rfl ?_
          refine aw_callV (K' := k_RA_size) (As := []) (rest := []) (b := 50) d_BF_count_112 rfl rfl rfl cs_BF_204 rfl (Nat.le_of_ble_eq_true rfl) (Nat.le_of_ble_eq_true rfl) (by decide) (by decide) (d' := 0) (w' := 0) (by decide) (by decide) ?_
          show AW _ _ _ _ _ _ _ [(0, .ref (50))] _ _ _ _ _
          refine aw_aload_n d_RA_size_0 rfl 0 rfl ?_
          refine aw_get (ic := 50) (ci := 4) (k := 2) d_RA_size_1 rfl rfl (by decide) rfl mw_153 rfl ?_
          refine aw_eqi (nI (rn R)) rc.1 ?_
          refine aw_iret d_RA_size_4 rfl (by decide) (by decide) (ab_go1 ?_)
          refine aw_iret d_BF_count_115 rfl (by decide) (by decide) ?_
          exact hQ
        · skip
          exfalso; omega
    · skip
      exfalso; omega
set_option maxRecDepth 4000 in
theorem C_count4 {l : Launch} {M : ab_M} {Q : ab_O → ab_M → Prop} (hl : l.stackTraces = false) {D : Dg} {T : Qg} {R : Rg} (wd : wD D) (dc : iDC D M) (wq : wQ T) (qc : iQC T M) (hn : rn R ≤ 12) (ho : ro R ≤ 12) (rc : iRC R M) (hQ : Q (.inl (some (.int (nI (ro R))))) M) : AW sys l ab_Zt k_BF_count 6 90 0 [(0, .ref (0)), (1, .int (nI (4)))] [] M 0 0 Q := by
  have h12 := wd.1
  have h24 := wq.1
  have hal := all_le wd
  refine aw_iload_n d_BF_count_0 rfl 1 rfl ?_
  refine aw_bipush (v := nI 10) d_BF_count_1 (by decide) ?_
  refine aw_icmp_ltN (tgt := 24) d_BF_count_3 (by decide) (by omega) (by omega) (fun c1 => ?_) (fun c1 => ?_)
  · skip
    refine aw_iload_n d_BF_count_24 rfl 1 rfl ?_
    refine aw_bipush (v := nI 30) d_BF_count_25 (by decide) ?_
    refine aw_icmp_ltN (tgt := 48) d_BF_count_27 (by decide) (by omega) (by omega) (fun c2 => ?_) (fun c2 => ?_)
    · skip
      refine aw_iload_n d_BF_count_48 rfl 1 rfl ?_
      refine aw_tabN 116 (by decide) d_BF_count_49 (Or.inr ⟨_, by decide, by decide, rfl, by decide⟩) ?_
      refine aw_aload_n d_BF_count_116 rfl 0 rfl ?_
      refine aw_get (ic := 0) (ci := 0) (k := 3) (v := .ref 50) d_BF_count_117 rfl rfl (by decide) rfl mw_192 rfl ?_
      refine aw_callV (K' := k_RA_leftOut) (As := []) (rest := []) (b := 50) d_BF_count_120 rfl rfl rfl cs_BF_230 rfl (Nat.le_of_ble_eq_true rfl) (Nat.le_of_ble_eq_true rfl) (by decide) (by decide) (d' := 0) (w' := 0) (by decide) (by decide) ?_
      show AW _ _ _ _ _ _ _ [(0, .ref (50))] _ _ _ _ _
      refine aw_aload_n d_RA_leftOut_0 rfl 0 rfl ?_
      refine aw_get (ic := 50) (ci := 4) (k := 3) d_RA_leftOut_1 rfl rfl (by decide) rfl mw_154 rfl ?_
      refine aw_eqi (nI (ro R)) rc.2.1 ?_
      refine aw_iret d_RA_leftOut_4 rfl (by decide) (by decide) (ab_go1 ?_)
      refine aw_iret d_BF_count_123 rfl (by decide) (by decide) ?_
      exact hQ
    · skip
      refine aw_iload_n d_BF_count_30 rfl 1 rfl ?_
      refine aw_bipush (v := nI 46) d_BF_count_31 (by decide) ?_
      refine aw_icmp_geN (tgt := 48) d_BF_count_33 (by decide) (by omega) (by omega) (fun c3 => ?_) (fun c3 => ?_)
      · skip
        refine aw_iload_n d_BF_count_48 rfl 1 rfl ?_
        refine aw_tabN 116 (by decide) d_BF_count_49 (Or.inr ⟨_, by decide, by decide, rfl, by decide⟩) ?_
        refine aw_aload_n d_BF_count_116 rfl 0 rfl ?_
        refine aw_get (ic := 0) (ci := 0) (k := 3) (v := .ref 50) d_BF_count_117 rfl rfl (by decide) rfl mw_192 rfl ?_
        refine aw_callV (K' := k_RA_leftOut) (As := []) (rest := []) (b := 50) d_BF_count_120 rfl rfl rfl cs_BF_230 rfl (Nat.le_of_ble_eq_true rfl) (Nat.le_of_ble_eq_true rfl) (by decide) (by decide) (d' := 0) (w' := 0) (by decide) (by decide) ?_
        show AW _ _ _ _ _ _ _ [(0, .ref (50))] _ _ _ _ _
        refine aw_aload_n d_RA_leftOut_0 rfl 0 rfl ?_
        refine aw_get (ic := 50) (ci := 4) (k := 3) d_RA_leftOut_1 rfl rfl (by decide) rfl mw_154 rfl ?_
        refine aw_eqi (nI (ro R)) rc.2.1 ?_
        refine aw_iret d_RA_leftOut_4 rfl (by decide) (by decide) (ab_go1 ?_)
        refine aw_iret d_BF_count_123 rfl (by decide) (by decide) ?_
        exact hQ
      · skip
        exfalso; omega
  · skip
    refine aw_iload_n d_BF_count_6 rfl 1 rfl ?_
    refine aw_bipush (v := nI 22) d_BF_count_7 (by decide) ?_
    refine aw_icmp_geN (tgt := 24) d_BF_count_9 (by decide) (by omega) (by omega) (fun c4 => ?_) (fun c4 => ?_)
    · skip
      refine aw_iload_n d_BF_count_24 rfl 1 rfl ?_
      refine aw_bipush (v := nI 30) d_BF_count_25 (by decide) ?_
      refine aw_icmp_ltN (tgt := 48) d_BF_count_27 (by decide) (by omega) (by omega) (fun c5 => ?_) (fun c5 => ?_)
      · skip
        refine aw_iload_n d_BF_count_48 rfl 1 rfl ?_
        refine aw_tabN 116 (by decide) d_BF_count_49 (Or.inr ⟨_, by decide, by decide, rfl, by decide⟩) ?_
        refine aw_aload_n d_BF_count_116 rfl 0 rfl ?_
        refine aw_get (ic := 0) (ci := 0) (k := 3) (v := .ref 50) d_BF_count_117 rfl rfl (by decide) rfl mw_192 rfl ?_
        refine aw_callV (K' := k_RA_leftOut) (As := []) (rest := []) (b := 50) d_BF_count_120 rfl rfl rfl cs_BF_230 rfl (Nat.le_of_ble_eq_true rfl) (Nat.le_of_ble_eq_true rfl) (by decide) (by decide) (d' := 0) (w' := 0) (by decide) (by decide) ?_
        show AW _ _ _ _ _ _ _ [(0, .ref (50))] _ _ _ _ _
        refine aw_aload_n d_RA_leftOut_0 rfl 0 rfl ?_
        refine aw_get (ic := 50) (ci := 4) (k := 3) d_RA_leftOut_1 rfl rfl (by decide) rfl mw_154 rfl ?_
        refine aw_eqi (nI (ro R)) rc.2.1 ?_
        refine aw_iret d_RA_leftOut_4 rfl (by decide) (by decide) (ab_go1 ?_)
        refine aw_iret d_BF_count_123 rfl (by decide) (by decide) ?_
        exact hQ
      · skip
        refine aw_iload_n d_BF_count_30 rfl 1 rfl ?_
        refine aw_bipush (v := nI 46) d_BF_count_31 (by decide) ?_
        refine aw_icmp_geN (tgt := 48) d_BF_count_33 (by decide) (by omega) (by omega) (fun c6 => ?_) (fun c6 => ?_)
        · skip
          refine aw_iload_n d_BF_count_48 rfl 1 rfl ?_
          refine aw_tabN 116 (by decide) d_BF_count_49 (Or.inr ⟨_, by decide, by decide, rfl, by decide⟩) ?_
          refine aw_aload_n d_BF_count_116 rfl 0 rfl ?_
          refine aw_get (ic := 0) (ci := 0) (k := 3) (v := .ref 50) d_BF_count_117 rfl rfl (by decide) rfl mw_192 rfl ?_
          refine aw_callV (K' := k_RA_leftOut) (As := []) (rest := []) (b := 50) d_BF_count_120 rfl rfl rfl cs_BF_230 rfl (Nat.le_of_ble_eq_true rfl) (Nat.le_of_ble_eq_true rfl) (by decide) (by decide) (d' := 0) (w' := 0) (by decide) (by decide) ?_
          show AW _ _ _ _ _ _ _ [(0, .ref (50))] _ _ _ _ _
          refine aw_aload_n d_RA_leftOut_0 rfl 0 rfl ?_
          refine aw_get (ic := 50) (ci := 4) (k := 3) d_RA_leftOut_1 rfl rfl (by decide) rfl mw_154 rfl ?_
          refine aw_eqi (nI (ro R)) rc.2.1 ?_
          refine aw_iret d_RA_leftOut_4 rfl (by decide) (by decide) (ab_go1 ?_)
          refine aw_iret d_BF_count_123 rfl (by decide) (by decide) ?_
          exact hQ
        · skip
          exfalso; omega
    · skip
      exfalso; omega
set_option maxRecDepth 4000 in
theorem C_hits_bad {l : Launch} {M : ab_M} {Q : ab_O → ab_M → Prop} (hl : l.stackTraces = false) {D : Dg} {T : Qg} (wd : wD D) (dc : iDC D M) (wq : wQ T) (qc : iQC T M) {x y : Int32} (hb : (x.toInt < 0 ∨ (qn T : Int) ≤ x.toInt) ∨ y.toInt < 0 ∨ (dn D : Int) ≤ y.toInt) (hQ : Q (.inr "java/lang/IndexOutOfBoundsException") M) : AW sys l ab_Zt k_BF_hits 6 119 0 [(0, .ref (0)), (1, .int (x)), (2, .int (y))] [] M 0 0 Q := by
  have h12 := wd.1
  have h24 := wq.1
  have hop := op_le (T := T) (qn T) (fun t h => wq.2.1 t h)
  refine aw_aload_n d_BF_hits_0 rfl 0 rfl ?_
  refine aw_get (ic := 0) (ci := 0) (k := 1) (v := .ref 17) d_BF_hits_1 rfl rfl (by decide) rfl mw_190 rfl ?_
  refine aw_iload_n d_BF_hits_4 rfl 1 rfl ?_
  refine aw_callV (K' := k_QU_has) (As := [.int (x)]) (rest := []) (b := 17) d_BF_hits_5 rfl rfl rfl cs_BF_167 rfl (Nat.le_of_ble_eq_true rfl) (Nat.le_of_ble_eq_true rfl) (by decide) (by decide) (d' := 0) (w' := 0) (by decide) (by decide) ?_
  show AW _ _ _ _ _ _ _ [(0, .ref (17)), (1, .int (x))] _ _ _ _ _
  refine aw_iload_n d_QU_has_0 rfl 1 rfl ?_
  refine az_lt rfl (tgt := 16) d_QU_has_1 (by decide) (fun c1 => ?_) (fun c1 => ?_)
  · skip
    refine aw_iconst (v := nI 0) d_QU_has_16 (by decide) ?_
    refine aw_zret (Or.inl rfl) d_QU_has_17 rfl (by decide) (by decide) (ab_go1 ?_)
    refine aw_if_eqN (tgt := 22) d_BF_hits_8 (by decide) (by omega) (fun c2 => ?_) (fun c2 => ?_)
    · skip
      refine th_IOO hl rfl d_BF_hits_22 d_BF_hits_25 d_BF_hits_26 d_BF_hits_28 d_BF_hits_31 (List.mem_of_getElem? (i := 13) rfl) rfl (by decide) (by decide) (by decide) (by decide) ?_
      first | exact hQ | (exact hF (by omega)) | (exfalso; omega)
    · skip
      exact absurd c2 (by decide)
  · skip
    refine aw_iload_n d_QU_has_4 rfl 1 rfl ?_
    refine aw_aload_n d_QU_has_5 rfl 0 rfl ?_
    refine aw_get (ic := 17) (ci := 2) (k := 4) d_QU_has_6 rfl rfl (by decide) rfl mw_96 rfl ?_
    refine aw_eqi (nI (qn T)) qc.1 ?_
    refine at_ge rfl (nI_toInt (by omega)) (tgt := 16) d_QU_has_9 (by decide) (fun c3 => ?_) (fun c3 => ?_)
    · skip
      refine aw_iconst (v := nI 0) d_QU_has_16 (by decide) ?_
      refine aw_zret (Or.inl rfl) d_QU_has_17 rfl (by decide) (by decide) (ab_go1 ?_)
      refine aw_if_eqN (tgt := 22) d_BF_hits_8 (by decide) (by omega) (fun c4 => ?_) (fun c4 => ?_)
      · skip
        refine th_IOO hl rfl d_BF_hits_22 d_BF_hits_25 d_BF_hits_26 d_BF_hits_28 d_BF_hits_31 (List.mem_of_getElem? (i := 13) rfl) rfl (by decide) (by decide) (by decide) (by decide) ?_
        first | exact hQ | (exact hF (by omega)) | (exfalso; omega)
      · skip
        exact absurd c4 (by decide)
    · skip
      refine aw_iconst (v := nI 1) d_QU_has_12 (by decide) ?_
      refine aw_goto (tgt := 17) d_QU_has_13 (by decide) ?_
      refine aw_zret (Or.inr rfl) d_QU_has_17 rfl (by decide) (by decide) (ab_go1 ?_)
      refine aw_if_eqN (tgt := 22) d_BF_hits_8 (by decide) (by omega) (fun c5 => ?_) (fun c5 => ?_)
      · skip
        exact absurd c5 (by decide)
      · skip
        refine aw_aload_n d_BF_hits_11 rfl 0 rfl ?_
        refine aw_get (ic := 0) (ci := 0) (k := 0) (v := .ref 1) d_BF_hits_12 rfl rfl (by decide) rfl mw_189 rfl ?_
        refine aw_iload_n d_BF_hits_15 rfl 2 rfl ?_
        refine aw_callV (K' := k_TX_has) (As := [.int (y)]) (rest := []) (b := 1) d_BF_hits_16 rfl rfl rfl cs_BF_135 rfl (Nat.le_of_ble_eq_true rfl) (Nat.le_of_ble_eq_true rfl) (by decide) (by decide) (d' := 0) (w' := 0) (by decide) (by decide) ?_
        show AW _ _ _ _ _ _ _ [(0, .ref (1)), (1, .int (y))] _ _ _ _ _
        refine aw_iload_n d_TX_has_0 rfl 1 rfl ?_
        refine az_lt rfl (tgt := 16) d_TX_has_1 (by decide) (fun c6 => ?_) (fun c6 => ?_)
        · skip
          refine aw_iconst (v := nI 0) d_TX_has_16 (by decide) ?_
          refine aw_zret (Or.inl rfl) d_TX_has_17 rfl (by decide) (by decide) (ab_go1 ?_)
          refine aw_if_neN (tgt := 32) d_BF_hits_19 (by decide) (by omega) (fun c7 => ?_) (fun c7 => ?_)
          · skip
            exact absurd c7 (by decide)
          · skip
            refine th_IOO hl rfl d_BF_hits_22 d_BF_hits_25 d_BF_hits_26 d_BF_hits_28 d_BF_hits_31 (List.mem_of_getElem? (i := 13) rfl) rfl (by decide) (by decide) (by decide) (by decide) ?_
            first | exact hQ | (exact hF (by omega)) | (exfalso; omega)
        · skip
          refine aw_iload_n d_TX_has_4 rfl 1 rfl ?_
          refine aw_aload_n d_TX_has_5 rfl 0 rfl ?_
          refine aw_get (ic := 1) (ci := 1) (k := 3) d_TX_has_6 rfl rfl (by decide) rfl mw_72 rfl ?_
          refine aw_eqi (nI (dn D)) dc.1 ?_
          refine at_ge rfl (nI_toInt (by omega)) (tgt := 16) d_TX_has_9 (by decide) (fun c8 => ?_) (fun c8 => ?_)
          · skip
            refine aw_iconst (v := nI 0) d_TX_has_16 (by decide) ?_
            refine aw_zret (Or.inl rfl) d_TX_has_17 rfl (by decide) (by decide) (ab_go1 ?_)
            refine aw_if_neN (tgt := 32) d_BF_hits_19 (by decide) (by omega) (fun c9 => ?_) (fun c9 => ?_)
            · skip
              exact absurd c9 (by decide)
            · skip
              refine th_IOO hl rfl d_BF_hits_22 d_BF_hits_25 d_BF_hits_26 d_BF_hits_28 d_BF_hits_31 (List.mem_of_getElem? (i := 13) rfl) rfl (by decide) (by decide) (by decide) (by decide) ?_
              first | exact hQ | (exact hF (by omega)) | (exfalso; omega)
          · skip
            refine aw_iconst (v := nI 1) d_TX_has_12 (by decide) ?_
            refine aw_goto (tgt := 17) d_TX_has_13 (by decide) ?_
            refine aw_zret (Or.inr rfl) d_TX_has_17 rfl (by decide) (by decide) (ab_go1 ?_)
            refine aw_if_neN (tgt := 32) d_BF_hits_19 (by decide) (by omega) (fun c10 => ?_) (fun c10 => ?_)
            · skip
              exfalso; omega
            · skip
              exact absurd c10 (by decide)
set_option maxRecDepth 4000 in
theorem C_hits {l : Launch} {M : ab_M} {Q : ab_O → ab_M → Prop} (hl : l.stackTraces = false) {D : Dg} {T : Qg} (wd : wD D) (dc : iDC D M) (wq : wQ T) (qc : iQC T M) {t d : Nat} (ht : t < qn T) (hd : d < dn D) (hF : op T (qn T) ≠ 0 → Q (.inr "java/lang/IllegalStateException") M) (hG : op T (qn T) = 0 → 4 < qk T t → Q (.inr "java/lang/UnsupportedOperationException") M) (hO : op T (qn T) = 0 → qk T t ≤ 4 → Q (.inl (some (.int (nI (cn (hitB T D t d) (dl D d)))))) M) : AW sys l ab_Zt k_BF_hits 6 119 0 [(0, .ref (0)), (1, .int (nI (t))), (2, .int (nI (d)))] [] M 0 0 Q := by
  have h12 := wd.1
  have h24 := wq.1
  have hop := op_le (T := T) (qn T) (fun t h => wq.2.1 t h)
  have hk11 := (wq.2.1 t ht).1
  refine aw_aload_n d_BF_hits_0 rfl 0 rfl ?_
  refine aw_get (ic := 0) (ci := 0) (k := 1) (v := .ref 17) d_BF_hits_1 rfl rfl (by decide) rfl mw_190 rfl ?_
  refine aw_iload_n d_BF_hits_4 rfl 1 rfl ?_
  refine aw_callV (K' := k_QU_has) (As := [.int (nI (t))]) (rest := []) (b := 17) d_BF_hits_5 rfl rfl rfl cs_BF_167 rfl (Nat.le_of_ble_eq_true rfl) (Nat.le_of_ble_eq_true rfl) (by decide) (by decide) (d' := 0) (w' := 0) (by decide) (by decide) ?_
  show AW _ _ _ _ _ _ _ [(0, .ref (17)), (1, .int (nI (t)))] _ _ _ _ _
  refine aw_iload_n d_QU_has_0 rfl 1 rfl ?_
  refine aw_if_lt (tgt := 16) d_QU_has_1 (by decide) (fun c1 => ?_) (fun c1 => ?_)
  · skip
    exact absurd c1 (nI_pos (by omega))
  · skip
    refine aw_iload_n d_QU_has_4 rfl 1 rfl ?_
    refine aw_aload_n d_QU_has_5 rfl 0 rfl ?_
    refine aw_get (ic := 17) (ci := 2) (k := 4) d_QU_has_6 rfl rfl (by decide) rfl mw_96 rfl ?_
    refine aw_eqi (nI (qn T)) qc.1 ?_
    refine aw_icmp_geN (tgt := 16) d_QU_has_9 (by decide) (by omega) (by omega) (fun c2 => ?_) (fun c2 => ?_)
    · skip
      refine aw_iconst (v := nI 0) d_QU_has_16 (by decide) ?_
      refine aw_zret (Or.inl rfl) d_QU_has_17 rfl (by decide) (by decide) (ab_go1 ?_)
      refine aw_if_eqN (tgt := 22) d_BF_hits_8 (by decide) (by omega) (fun c3 => ?_) (fun c3 => ?_)
      · skip
        exfalso; omega
      · skip
        exact absurd c3 (by decide)
    · skip
      refine aw_iconst (v := nI 1) d_QU_has_12 (by decide) ?_
      refine aw_goto (tgt := 17) d_QU_has_13 (by decide) ?_
      refine aw_zret (Or.inr rfl) d_QU_has_17 rfl (by decide) (by decide) (ab_go1 ?_)
      refine aw_if_eqN (tgt := 22) d_BF_hits_8 (by decide) (by omega) (fun c4 => ?_) (fun c4 => ?_)
      · skip
        exact absurd c4 (by decide)
      · skip
        refine aw_aload_n d_BF_hits_11 rfl 0 rfl ?_
        refine aw_get (ic := 0) (ci := 0) (k := 0) (v := .ref 1) d_BF_hits_12 rfl rfl (by decide) rfl mw_189 rfl ?_
        refine aw_iload_n d_BF_hits_15 rfl 2 rfl ?_
        refine aw_callV (K' := k_TX_has) (As := [.int (nI (d))]) (rest := []) (b := 1) d_BF_hits_16 rfl rfl rfl cs_BF_135 rfl (Nat.le_of_ble_eq_true rfl) (Nat.le_of_ble_eq_true rfl) (by decide) (by decide) (d' := 0) (w' := 0) (by decide) (by decide) ?_
        show AW _ _ _ _ _ _ _ [(0, .ref (1)), (1, .int (nI (d)))] _ _ _ _ _
        refine aw_iload_n d_TX_has_0 rfl 1 rfl ?_
        refine aw_if_lt (tgt := 16) d_TX_has_1 (by decide) (fun c5 => ?_) (fun c5 => ?_)
        · skip
          exact absurd c5 (nI_pos (by omega))
        · skip
          refine aw_iload_n d_TX_has_4 rfl 1 rfl ?_
          refine aw_aload_n d_TX_has_5 rfl 0 rfl ?_
          refine aw_get (ic := 1) (ci := 1) (k := 3) d_TX_has_6 rfl rfl (by decide) rfl mw_72 rfl ?_
          refine aw_eqi (nI (dn D)) dc.1 ?_
          refine aw_icmp_geN (tgt := 16) d_TX_has_9 (by decide) (by omega) (by omega) (fun c6 => ?_) (fun c6 => ?_)
          · skip
            refine aw_iconst (v := nI 0) d_TX_has_16 (by decide) ?_
            refine aw_zret (Or.inl rfl) d_TX_has_17 rfl (by decide) (by decide) (ab_go1 ?_)
            refine aw_if_neN (tgt := 32) d_BF_hits_19 (by decide) (by omega) (fun c7 => ?_) (fun c7 => ?_)
            · skip
              exact absurd c7 (by decide)
            · skip
              exfalso; omega
          · skip
            refine aw_iconst (v := nI 1) d_TX_has_12 (by decide) ?_
            refine aw_goto (tgt := 17) d_TX_has_13 (by decide) ?_
            refine aw_zret (Or.inr rfl) d_TX_has_17 rfl (by decide) (by decide) (ab_go1 ?_)
            refine aw_if_neN (tgt := 32) d_BF_hits_19 (by decide) (by omega) (fun c8 => ?_) (fun c8 => ?_)
            · skip
              refine aw_aload_n d_BF_hits_32 rfl 0 rfl ?_
              refine aw_get (ic := 0) (ci := 0) (k := 1) (v := .ref 17) d_BF_hits_33 rfl rfl (by decide) rfl mw_190 rfl ?_
              refine aw_callV (K' := k_QU_isWhole) (As := []) (rest := []) (b := 17) d_BF_hits_36 rfl rfl rfl cs_BF_109 rfl (Nat.le_of_ble_eq_true rfl) (Nat.le_of_ble_eq_true rfl) (by decide) (by decide) (d' := 0) (w' := 0) (by decide) (by decide) ?_
              show AW _ _ _ _ _ _ _ [(0, .ref (17))] _ _ _ _ _
              refine aw_aload_n d_QU_isWhole_0 rfl 0 rfl ?_
              refine aw_get (ic := 17) (ci := 2) (k := 5) d_QU_isWhole_1 rfl rfl (by decide) rfl mw_97 rfl ?_
              refine aw_eqi (nI (op T (qn T))) qc.2.2.2.2.1 ?_
              refine aw_if_neN (tgt := 11) d_QU_isWhole_4 (by decide) (by omega) (fun c9 => ?_) (fun c9 => ?_)
              · skip
                refine aw_iconst (v := nI 0) d_QU_isWhole_11 (by decide) ?_
                refine aw_zret (Or.inl rfl) d_QU_isWhole_12 rfl (by decide) (by decide) (ab_go1 ?_)
                refine aw_if_neN (tgt := 52) d_BF_hits_39 (by decide) (by omega) (fun c10 => ?_) (fun c10 => ?_)
                · skip
                  exact absurd c10 (by decide)
                · skip
                  refine th_ISE hl rfl d_BF_hits_42 d_BF_hits_45 d_BF_hits_46 d_BF_hits_48 d_BF_hits_51 (List.mem_of_getElem? (i := 11) rfl) rfl (by decide) (by decide) (by decide) (by decide) ?_
                  exact hF (by omega)
              · skip
                refine aw_iconst (v := nI 1) d_QU_isWhole_7 (by decide) ?_
                refine aw_goto (tgt := 12) d_QU_isWhole_8 (by decide) ?_
                refine aw_zret (Or.inr rfl) d_QU_isWhole_12 rfl (by decide) (by decide) (ab_go1 ?_)
                refine aw_if_neN (tgt := 52) d_BF_hits_39 (by decide) (by omega) (fun c11 => ?_) (fun c11 => ?_)
                · skip
                  refine aw_aload_n d_BF_hits_52 rfl 0 rfl ?_
                  refine aw_get (ic := 0) (ci := 0) (k := 1) (v := .ref 17) d_BF_hits_53 rfl rfl (by decide) rfl mw_190 rfl ?_
                  refine aw_iload_n d_BF_hits_56 rfl 1 rfl ?_
                  refine aw_callV (K' := k_QU_kindOf) (As := [.int (nI (t))]) (rest := []) (b := 17) d_BF_hits_57 rfl rfl rfl cs_BF_170 rfl (Nat.le_of_ble_eq_true rfl) (Nat.le_of_ble_eq_true rfl) (by decide) (by decide) (d' := 0) (w' := 0) (by decide) (by decide) ?_
                  show AW _ _ _ _ _ _ _ [(0, .ref (17)), (1, .int (nI (t)))] _ _ _ _ _
                  refine aw_aload_n d_QU_kindOf_0 rfl 0 rfl ?_
                  refine aw_get (ic := 17) (ci := 2) (k := 0) (v := .ref 18) d_QU_kindOf_1 rfl rfl (by decide) rfl mw_92 rfl ?_
                  refine aw_iload_n d_QU_kindOf_4 rfl 1 rfl ?_
                  refine aw_ialdN d_QU_kindOf_5 rfl (by decide) (by omega) ?_
                  refine aw_eqi (nI (qk T t)) (qc.2.1 _ (by omega)) ?_
                  refine aw_iret d_QU_kindOf_6 rfl (by decide) (by decide) (ab_go1 ?_)
                  refine aw_callS (K' := k_BF_hasHits) (As := [.int (nI (qk T t))]) (rest := []) d_BF_hits_60 rfl cs_BF_173 rfl (Nat.le_of_ble_eq_true rfl) (Nat.le_of_ble_eq_true rfl) (by decide) (by decide) (d' := 0) (w' := 0) (by decide) (by decide) ?_
                  show AW _ _ _ _ _ _ _ [(0, .int (nI (qk T t)))] _ _ _ _ _
                  refine aw_iload_n d_BF_hasHits_0 rfl 0 rfl ?_
                  refine aw_if_lt (tgt := 13) d_BF_hasHits_1 (by decide) (fun c12 => ?_) (fun c12 => ?_)
                  · skip
                    exact absurd c12 (nI_pos (by omega))
                  · skip
                    refine aw_iload_n d_BF_hasHits_4 rfl 0 rfl ?_
                    refine aw_iconst (v := nI 4) d_BF_hasHits_5 (by decide) ?_
                    refine aw_icmp_gtN (tgt := 13) d_BF_hasHits_6 (by decide) (by omega) (by omega) (fun c13 => ?_) (fun c13 => ?_)
                    · skip
                      refine aw_iconst (v := nI 0) d_BF_hasHits_13 (by decide) ?_
                      refine aw_zret (Or.inl rfl) d_BF_hasHits_14 rfl (by decide) (by decide) (ab_go1 ?_)
                      refine aw_if_neN (tgt := 76) d_BF_hits_63 (by decide) (by omega) (fun c14 => ?_) (fun c14 => ?_)
                      · skip
                        exact absurd c14 (by decide)
                      · skip
                        refine th_UOE hl rfl d_BF_hits_66 d_BF_hits_69 d_BF_hits_70 d_BF_hits_72 d_BF_hits_75 (List.mem_of_getElem? (i := 14) rfl) rfl (by decide) (by decide) (by decide) (by decide) ?_
                        exact hG (by omega) (by omega)
                    · skip
                      refine aw_iconst (v := nI 1) d_BF_hasHits_9 (by decide) ?_
                      refine aw_goto (tgt := 14) d_BF_hasHits_10 (by decide) ?_
                      refine aw_zret (Or.inr rfl) d_BF_hasHits_14 rfl (by decide) (by decide) (ab_go1 ?_)
                      refine aw_if_neN (tgt := 76) d_BF_hits_63 (by decide) (by omega) (fun c15 => ?_) (fun c15 => ?_)
                      · skip
                        refine aw_aload_n d_BF_hits_76 rfl 0 rfl ?_
                        refine aw_get (ic := 0) (ci := 0) (k := 2) (v := .ref 22) d_BF_hits_77 rfl rfl (by decide) rfl mw_191 rfl ?_
                        refine aw_iload_n d_BF_hits_80 rfl 1 rfl ?_
                        refine aw_iload_n d_BF_hits_81 rfl 2 rfl ?_
                        refine aw_callV (K' := k_NE_hitsIn) (As := [.int (nI (t)), .int (nI (d))]) (rest := []) (b := 22) d_BF_hits_82 rfl rfl rfl cs_BF_178 rfl (Nat.le_of_ble_eq_true rfl) (Nat.le_of_ble_eq_true rfl) (by decide) (by decide) (d' := 4) (w' := 95) (by decide) (by decide) ?_
                        show AW _ _ _ _ _ _ _ [(0, .ref (22)), (1, .int (nI (t))), (2, .int (nI (d)))] _ _ _ _ _
                        refine A_hitsIn wd dc wq qc (by omega) ht (by omega) (by omega) ?_
                        refine ab_go1 ?_
                        refine aw_iret d_BF_hits_85 rfl (by decide) (by decide) ?_
                        exact hO (by omega) (by omega)
                      · skip
                        exact absurd c15 (by decide)
                · skip
                  exact absurd c11 (by decide)
            · skip
              exact absurd c8 (by decide)
