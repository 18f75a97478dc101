/-! the law, case by case (rows laid by gen/m19.py) -/
set_option maxRecDepth 8000 in
theorem LC_document {l : Launch} {b L : Nat} {xs : Nat → Int32} {M : ab_M} {Q : ab_O → ab_M → Prop} {n1 n2 : Nat} (hl : l.stackTraces = false) {D : Dg} {T : Qg} {S : Sg} {R : Rg} (hI : INV D T S R M) {i : Nat} (hi : i + 4 ≤ L) (hL : L ≤ 2048) (hn1 : n1 + 1 ≤ 601024) (hn2 : n2 + 6 ≤ 7293034) (hK : ∀ (D : Dg) (T : Qg) (S : Sg) (R : Rg) (M' : ab_M), INV D T S R M' → AW sys l (ab_Zs9 sys 71 b L xs) k_LA_law 9 207 957 [(5, .int (nI (i))), (0, .ref (71)), (1, .ref (0)), (2, .ref (57)), (3, .ref (69)), (4, .ref (70))] [] M' (n1 + 1) (n2 + 6) Q) : AW sys l (ab_Zs9 sys 71 b L xs) k_LA_law 9 207 116 [(5, .int (nI (i))), (0, .ref (71)), (1, .ref (0)), (2, .ref (57)), (3, .ref (69)), (4, .ref (70))] [] M n1 n2 Q := by
  obtain ⟨⟨wd, wq, ws, wr⟩, ci, ri⟩ := id hI
  obtain ⟨dc, qc, sc, rc⟩ := id ci
  obtain ⟨dr, qr, sr, rr⟩ := id ri
  by_cases hb : (xs (i + 1)).toInt < 0 ∨ 24 < (xs (i + 1)).toInt
  · skip
    refine aw_aload_n d_LA_law_116 rfl 2 rfl ?_
    refine aw_aload_n d_LA_law_117 rfl 1 rfl ?_
    refine aw_iload d_LA_law_118 0 rfl ?_
    refine aw_iconst (v := nI 1) d_LA_law_120 (by decide) ?_
    refine aw_iaddN d_LA_law_121 ?_
    refine aw_sld d_LA_law_122 (pk_in (i + 1) L (by omega)) ?_
    refine aw_eqi (xs (i + 1)) (by rw [nI_clamp (by omega)]) ?_
    refine aw_aload_n d_LA_law_123 rfl 4 rfl ?_
    refine aw_callSW (K' := k_LA_document) (As := [.ref (0), .int (xs (i + 1)), .ref (69)]) (rest := []) d_LA_law_124 rfl (by decide) cs_LA_65 rfl (Nat.le_of_ble_eq_true rfl) (Nat.le_of_ble_eq_true rfl) (by show n1 + 1 ≤ 601024; omega) (by show n2 + 6 ≤ 7293034; omega) (d' := 7) (w' := 111) (by decide) (by decide) ?_
    show AW _ _ _ _ _ _ _ [(0, .ref (0)), (1, .int (xs (i + 1))), (2, .ref (69))] _ _ _ _ _
    refine aw_aload_n d_LA_document_0 rfl 2 rfl ?_
    refine aw_iconst (v := nI 0) d_LA_document_1 (by decide) ?_
    refine aw_aload_n d_LA_document_2 rfl 0 rfl ?_
    refine aw_iload_n d_LA_document_3 rfl 1 rfl ?_
    refine aw_callVX (K' := k_BF_document) (As := [.int (xs (i + 1))]) (rest := [.int (nI (0)), .ref (69)]) (b := 0) d_LA_document_4 rfl rfl rfl cs_LA_7 rfl (Nat.le_of_ble_eq_true rfl) (Nat.le_of_ble_eq_true rfl) (by decide) (by decide) (d' := 6) (w' := 90) (by decide) (by decide) ?_
    show AW _ _ _ _ _ _ _ [(0, .ref (0)), (1, .int (xs (i + 1)))] _ _ _ _ _
    refine C_document_bad hl hb ?_
    refine ab_afx1 (k := 3) ct_document_IAE (by decide) d_LA_document_12 rfl ?_
    show AW _ _ _ _ _ _ 13 [(0, .ref (0)), (1, .int (xs (i + 1))), (2, .ref (69))] _ _ _ _ _
    refine aw_iconst (v := nI 1) d_LA_document_13 (by decide) ?_
    refine aw_iret d_LA_document_14 rfl (by decide) (by decide) (ab_go1 ?_)
    refine aw_istore (lv' := [(6, .int (nI (1))), (5, .int (nI (i))), (0, .ref (71)), (1, .ref (0)), (2, .ref (57)), (3, .ref (69)), (4, .ref (70))]) d_LA_law_127 (by decide) rfl ?_
    refine aw_aload_n d_LA_law_129 rfl 4 rfl ?_
    refine aw_aload_n d_LA_law_130 rfl 2 rfl ?_
    refine aw_iload d_LA_law_131 1 rfl ?_
    refine aw_iconst (v := nI 1) d_LA_law_133 (by decide) ?_
    refine aw_iaddN d_LA_law_134 ?_
    refine aw_sld d_LA_law_135 (pk_in (i + 1) L (by omega)) ?_
    refine aw_eqi (xs (i + 1)) (by rw [nI_clamp (by omega)]) ?_
    refine aw_callV (K' := k_MO_document) (As := [.int (xs (i + 1))]) (rest := []) (b := 57) d_LA_law_136 rfl rfl rfl cs_LA_70 rfl (Nat.le_of_ble_eq_true rfl) (Nat.le_of_ble_eq_true rfl) (by show n1 + 1 + 0 ≤ 601024; omega) (by show n2 + 6 + 0 ≤ 7293034; omega) (d' := 1) (w' := 22) (by decide) (by decide) ?_
    show AW _ _ _ _ _ _ _ [(0, .ref (57)), (1, .int (xs (i + 1)))] _ _ _ _ _
    refine R_document_bad hb ?_
    refine ab_go1 ?_
    refine aw_istore (lv' := [(7, .int (nI (0))), (6, .int (nI (1))), (5, .int (nI (i))), (0, .ref (71)), (1, .ref (0)), (2, .ref (57)), (3, .ref (69)), (4, .ref (70))]) d_LA_law_139 (by decide) rfl ?_
    refine aw_aload_n d_LA_law_141 rfl 5 rfl ?_
    refine aw_callV (K' := k_MO_thrown) (As := []) (rest := []) (b := 57) d_LA_law_142 rfl rfl rfl cs_LA_71 rfl (Nat.le_of_ble_eq_true rfl) (Nat.le_of_ble_eq_true rfl) (by show n1 + 1 + 0 ≤ 601024; omega) (by show n2 + 6 + 0 ≤ 7293034; omega) (d' := 0) (w' := 0) (by decide) (by decide) ?_
    show AW _ _ _ _ _ _ _ [(0, .ref (57))] _ _ _ _ _
    refine aw_aload_n d_MO_thrown_0 rfl 0 rfl ?_
    refine aw_get (ic := 57) (ci := 6) (k := 0) d_MO_thrown_1 rfl rfl (by decide) rfl mw_775 rfl ?_
    refine aw_eqi (nI (1)) (sI_hit _ _ _ _) ?_
    refine aw_iret d_MO_thrown_4 rfl (by decide) (by decide) (ab_go1 ?_)
    refine aw_iload d_LA_law_145 1 rfl ?_
    refine aw_icmp_eqN (tgt := 152) d_LA_law_147 (by decide) (by omega) (by omega) (fun c1 => ?_) (fun c1 => ?_)
    · skip
      refine aw_iload d_LA_law_152 1 rfl ?_
      refine aw_if_neN (tgt := 169) d_LA_law_154 (by decide) (by omega) (fun c2 => ?_) (fun c2 => ?_)
      · skip
        refine aw_goto (tgt := 957) d_LA_law_169 (by decide) ?_
        refine aw_pick [2, 3, 4, 5, 6, 7] rfl ?_
        exact hK D T S R _ ⟨hI.1, CI_thr ci, RI_thr ri⟩
      · skip
        exact absurd c2 (by decide)
    · skip
      exfalso; omega
  · skip
    obtain ⟨t, ht, hx⟩ : ∃ t, t ≤ 24 ∧ xs (i + 1) = nI t := ⟨(xs (i + 1)).toInt.toNat, by omega, i32_nat (by omega)⟩
    refine aw_aload_n d_LA_law_116 rfl 2 rfl ?_
    refine aw_aload_n d_LA_law_117 rfl 1 rfl ?_
    refine aw_iload d_LA_law_118 0 rfl ?_
    refine aw_iconst (v := nI 1) d_LA_law_120 (by decide) ?_
    refine aw_iaddN d_LA_law_121 ?_
    refine aw_sld d_LA_law_122 (pk_in (i + 1) L (by omega)) ?_
    refine aw_eqi (nI (t)) (by rw [nI_clamp (by omega), hx]) ?_
    refine aw_aload_n d_LA_law_123 rfl 4 rfl ?_
    refine aw_callSW (K' := k_LA_document) (As := [.ref (0), .int (nI (t)), .ref (69)]) (rest := []) d_LA_law_124 rfl (by decide) cs_LA_65 rfl (Nat.le_of_ble_eq_true rfl) (Nat.le_of_ble_eq_true rfl) (by show n1 + 1 ≤ 601024; omega) (by show n2 + 6 ≤ 7293034; omega) (d' := 7) (w' := 111) (by decide) (by decide) ?_
    show AW _ _ _ _ _ _ _ [(0, .ref (0)), (1, .int (nI (t))), (2, .ref (69))] _ _ _ _ _
    refine aw_aload_n d_LA_document_0 rfl 2 rfl ?_
    refine aw_iconst (v := nI 0) d_LA_document_1 (by decide) ?_
    refine aw_aload_n d_LA_document_2 rfl 0 rfl ?_
    refine aw_iload_n d_LA_document_3 rfl 1 rfl ?_
    refine aw_callVX (K' := k_BF_document) (As := [.int (nI (t))]) (rest := [.int (nI (0)), .ref (69)]) (b := 0) d_LA_document_4 rfl rfl rfl cs_LA_7 rfl (Nat.le_of_ble_eq_true rfl) (Nat.le_of_ble_eq_true rfl) (by decide) (by decide) (d' := 6) (w' := 90) (by decide) (by decide) ?_
    show AW _ _ _ _ _ _ _ [(0, .ref (0)), (1, .int (nI (t)))] _ _ _ _ _
    refine C_document hl wd dc ht (fun hF => ?_) (fun hO => ?_)
    · skip
      refine ab_afx1 (k := 3) ct_document_ISE (by decide) d_LA_document_15 rfl ?_
      show AW _ _ _ _ _ _ 16 [(0, .ref (0)), (1, .int (nI (t))), (2, .ref (69))] _ _ _ _ _
      refine aw_iconst (v := nI 2) d_LA_document_16 (by decide) ?_
      refine aw_iret d_LA_document_17 rfl (by decide) (by decide) (ab_go1 ?_)
      refine aw_istore (lv' := [(6, .int (nI (2))), (5, .int (nI (i))), (0, .ref (71)), (1, .ref (0)), (2, .ref (57)), (3, .ref (69)), (4, .ref (70))]) d_LA_law_127 (by decide) rfl ?_
      refine aw_aload_n d_LA_law_129 rfl 4 rfl ?_
      refine aw_aload_n d_LA_law_130 rfl 2 rfl ?_
      refine aw_iload d_LA_law_131 1 rfl ?_
      refine aw_iconst (v := nI 1) d_LA_law_133 (by decide) ?_
      refine aw_iaddN d_LA_law_134 ?_
      refine aw_sld d_LA_law_135 (pk_in (i + 1) L (by omega)) ?_
      refine aw_eqi (nI (t)) (by rw [nI_clamp (by omega), hx]) ?_
      refine aw_callV (K' := k_MO_document) (As := [.int (nI (t))]) (rest := []) (b := 57) d_LA_law_136 rfl rfl rfl cs_LA_70 rfl (Nat.le_of_ble_eq_true rfl) (Nat.le_of_ble_eq_true rfl) (by show n1 + 1 + 0 ≤ 601024; omega) (by show n2 + 6 + 0 ≤ 7293034; omega) (d' := 1) (w' := 22) (by decide) (by decide) ?_
      show AW _ _ _ _ _ _ _ [(0, .ref (57)), (1, .int (nI (t)))] _ _ _ _ _
      refine R_document wd dr ht (fun _ => ?_) (fun h => absurd h (by omega))
      refine ab_go1 ?_
      refine aw_istore (lv' := [(7, .int (nI (0))), (6, .int (nI (2))), (5, .int (nI (i))), (0, .ref (71)), (1, .ref (0)), (2, .ref (57)), (3, .ref (69)), (4, .ref (70))]) d_LA_law_139 (by decide) rfl ?_
      refine aw_aload_n d_LA_law_141 rfl 5 rfl ?_
      refine aw_callV (K' := k_MO_thrown) (As := []) (rest := []) (b := 57) d_LA_law_142 rfl rfl rfl cs_LA_71 rfl (Nat.le_of_ble_eq_true rfl) (Nat.le_of_ble_eq_true rfl) (by show n1 + 1 + 0 ≤ 601024; omega) (by show n2 + 6 + 0 ≤ 7293034; omega) (d' := 0) (w' := 0) (by decide) (by decide) ?_
      show AW _ _ _ _ _ _ _ [(0, .ref (57))] _ _ _ _ _
      refine aw_aload_n d_MO_thrown_0 rfl 0 rfl ?_
      refine aw_get (ic := 57) (ci := 6) (k := 0) d_MO_thrown_1 rfl rfl (by decide) rfl mw_775 rfl ?_
      refine aw_eqi (nI (2)) (sI_hit _ _ _ _) ?_
      refine aw_iret d_MO_thrown_4 rfl (by decide) (by decide) (ab_go1 ?_)
      refine aw_iload d_LA_law_145 1 rfl ?_
      refine aw_icmp_eqN (tgt := 152) d_LA_law_147 (by decide) (by omega) (by omega) (fun c1 => ?_) (fun c1 => ?_)
      · skip
        refine aw_iload d_LA_law_152 1 rfl ?_
        refine aw_if_neN (tgt := 169) d_LA_law_154 (by decide) (by omega) (fun c2 => ?_) (fun c2 => ?_)
        · skip
          refine aw_goto (tgt := 957) d_LA_law_169 (by decide) ?_
          refine aw_pick [2, 3, 4, 5, 6, 7] rfl ?_
          exact hK D T S R _ ⟨hI.1, CI_thr ci, RI_thr ri⟩
        · skip
          exact absurd c2 (by decide)
      · skip
        exfalso; omega
    · skip
      refine ab_af1 ?_
      refine aw_i2l d_LA_document_7 ?_
      refine aw_lastN d_LA_document_8 rfl (by decide) (by omega) ?_
      refine aw_goto (tgt := 18) d_LA_document_9 (by decide) ?_
      refine aw_iconst (v := nI 0) d_LA_document_18 (by decide) ?_
      refine aw_iret d_LA_document_19 rfl (by decide) (by decide) (ab_go1 ?_)
      refine aw_istore (lv' := [(6, .int (nI (0))), (5, .int (nI (i))), (0, .ref (71)), (1, .ref (0)), (2, .ref (57)), (3, .ref (69)), (4, .ref (70))]) d_LA_law_127 (by decide) rfl ?_
      refine aw_aload_n d_LA_law_129 rfl 4 rfl ?_
      refine aw_aload_n d_LA_law_130 rfl 2 rfl ?_
      refine aw_iload d_LA_law_131 1 rfl ?_
      refine aw_iconst (v := nI 1) d_LA_law_133 (by decide) ?_
      refine aw_iaddN d_LA_law_134 ?_
      refine aw_sld d_LA_law_135 (pk_in (i + 1) L (by omega)) ?_
      refine aw_eqi (nI (t)) (by rw [nI_clamp (by omega), hx]) ?_
      refine aw_callV (K' := k_MO_document) (As := [.int (nI (t))]) (rest := []) (b := 57) d_LA_law_136 rfl rfl rfl cs_LA_70 rfl (Nat.le_of_ble_eq_true rfl) (Nat.le_of_ble_eq_true rfl) (by show n1 + 1 + 0 ≤ 601024; omega) (by show n2 + 6 + 0 ≤ 7293034; omega) (d' := 1) (w' := 22) (by decide) (by decide) ?_
      show AW _ _ _ _ _ _ _ [(0, .ref (57)), (1, .int (nI (t)))] _ _ _ _ _
      have r1 : RI D T S R (ab_sJ (docC D t M) (69) (0) (Int32.toInt64 (nI (dn D)))) := RI_J (RI_frR ri (docC_ok wd hO ci).2)
      refine R_document wd r1.1 ht (fun h => absurd h (by omega)) (fun _ => ?_)
      refine ab_go1 ?_
      refine aw_istore (lv' := [(7, .int (nI (dn D))), (6, .int (nI (0))), (5, .int (nI (i))), (0, .ref (71)), (1, .ref (0)), (2, .ref (57)), (3, .ref (69)), (4, .ref (70))]) d_LA_law_139 (by decide) rfl ?_
      refine aw_aload_n d_LA_law_141 rfl 5 rfl ?_
      refine aw_callV (K' := k_MO_thrown) (As := []) (rest := []) (b := 57) d_LA_law_142 rfl rfl rfl cs_LA_71 rfl (Nat.le_of_ble_eq_true rfl) (Nat.le_of_ble_eq_true rfl) (by show n1 + 1 + 0 ≤ 601024; omega) (by show n2 + 6 + 0 ≤ 7293034; omega) (d' := 0) (w' := 0) (by decide) (by decide) ?_
      show AW _ _ _ _ _ _ _ [(0, .ref (57))] _ _ _ _ _
      refine aw_aload_n d_MO_thrown_0 rfl 0 rfl ?_
      refine aw_get (ic := 57) (ci := 6) (k := 0) d_MO_thrown_1 rfl rfl (by decide) rfl mw_775 rfl ?_
      refine aw_eqi (nI (0)) (docR_ok wd hO r1).2.2 ?_
      refine aw_iret d_MO_thrown_4 rfl (by decide) (by decide) (ab_go1 ?_)
      refine aw_iload d_LA_law_145 1 rfl ?_
      refine aw_icmp_eqN (tgt := 152) d_LA_law_147 (by decide) (by omega) (by omega) (fun c3 => ?_) (fun c3 => ?_)
      · skip
        refine aw_iload d_LA_law_152 1 rfl ?_
        refine aw_if_neN (tgt := 169) d_LA_law_154 (by decide) (by omega) (fun c4 => ?_) (fun c4 => ?_)
        · skip
          exact absurd c4 (by decide)
        · skip
          refine aw_aload_n d_LA_law_157 rfl 6 rfl ?_
          refine aw_iconst (v := nI 0) d_LA_law_158 (by decide) ?_
          refine aw_laldN d_LA_law_159 rfl (by decide) (by omega) ?_
          refine aw_eql (Int32.toInt64 (nI (dn D))) (((docR_ok wd hO r1).2.1 69 0 (by omega)).2.2.trans (sJ_hit _ _ _ _)) ?_
          refine aw_iload d_LA_law_160 0 rfl ?_
          refine aw_i2l d_LA_law_162 ?_
          refine aw_lcmp d_LA_law_163 ?_
          refine aw_eqi (nI (0)) (lg_self _) ?_
          refine aw_if_eqN (tgt := 169) d_LA_law_164 (by decide) (by omega) (fun c5 => ?_) (fun c5 => ?_)
          · skip
            refine aw_goto (tgt := 957) d_LA_law_169 (by decide) ?_
            refine aw_pick [2, 3, 4, 5, 6, 7] rfl ?_
            exact hK (addD D t) T S R _ ⟨⟨addD_w wd hO ht, wq, ws, addD_r wr⟩, CI_frC (CI_J (docC_ok wd hO ci).1) (docR_ok wd hO r1).2.1, (docR_ok wd hO r1).1⟩
          · skip
            exact absurd c5 (by decide)
      · skip
        exfalso; omega
set_option maxRecDepth 8000 in
theorem LC_word {l : Launch} {b L : Nat} {xs : Nat → Int32} {M : ab_M} {Q : ab_O → ab_M → Prop} {n1 n2 : Nat} (hl : l.stackTraces = false) {D : Dg} {T : Qg} {S : Sg} {R : Rg} (hI : INV D T S R M) {i : Nat} (hi : i + 4 ≤ L) (hL : L ≤ 2048) (hn1 : n1 + 1 ≤ 601024) (hn2 : n2 + 6 ≤ 7293034) (hK : ∀ (D : Dg) (T : Qg) (S : Sg) (R : Rg) (M' : ab_M), INV D T S R M' → AW sys l (ab_Zs9 sys 71 b L xs) k_LA_law 9 207 957 [(5, .int (nI (i))), (0, .ref (71)), (1, .ref (0)), (2, .ref (57)), (3, .ref (69)), (4, .ref (70))] [] M' (n1 + 1) (n2 + 6) Q) : AW sys l (ab_Zs9 sys 71 b L xs) k_LA_law 9 207 172 [(5, .int (nI (i))), (0, .ref (71)), (1, .ref (0)), (2, .ref (57)), (3, .ref (69)), (4, .ref (70))] [] M n1 n2 Q := by
  obtain ⟨⟨wd, wq, ws, wr⟩, ci, ri⟩ := id hI
  obtain ⟨dc, qc, sc, rc⟩ := id ci
  obtain ⟨dr, qr, sr, rr⟩ := id ri
  by_cases hb : (xs (i + 1)).toInt < 0 ∨ 15 < (xs (i + 1)).toInt
  · skip
    refine aw_aload_n d_LA_law_172 rfl 2 rfl ?_
    refine aw_aload_n d_LA_law_173 rfl 1 rfl ?_
    refine aw_iload d_LA_law_174 0 rfl ?_
    refine aw_iconst (v := nI 1) d_LA_law_176 (by decide) ?_
    refine aw_iaddN d_LA_law_177 ?_
    refine aw_sld d_LA_law_178 (pk_in (i + 1) L (by omega)) ?_
    refine aw_eqi (xs (i + 1)) (by rw [nI_clamp (by omega)]) ?_
    refine aw_aload_n d_LA_law_179 rfl 4 rfl ?_
    refine aw_callSW (K' := k_LA_word) (As := [.ref (0), .int (xs (i + 1)), .ref (69)]) (rest := []) d_LA_law_180 rfl (by decide) cs_LA_75 rfl (Nat.le_of_ble_eq_true rfl) (Nat.le_of_ble_eq_true rfl) (by show n1 + 1 ≤ 601024; omega) (by show n2 + 6 ≤ 7293034; omega) (d' := 7) (w' := 111) (by decide) (by decide) ?_
    show AW _ _ _ _ _ _ _ [(0, .ref (0)), (1, .int (xs (i + 1))), (2, .ref (69))] _ _ _ _ _
    refine aw_aload_n d_LA_word_0 rfl 2 rfl ?_
    refine aw_iconst (v := nI 0) d_LA_word_1 (by decide) ?_
    refine aw_aload_n d_LA_word_2 rfl 0 rfl ?_
    refine aw_iload_n d_LA_word_3 rfl 1 rfl ?_
    refine aw_callVX (K' := k_BF_word) (As := [.int (xs (i + 1))]) (rest := [.int (nI (0)), .ref (69)]) (b := 0) d_LA_word_4 rfl rfl rfl cs_LA_17 rfl (Nat.le_of_ble_eq_true rfl) (Nat.le_of_ble_eq_true rfl) (by decide) (by decide) (d' := 6) (w' := 90) (by decide) (by decide) ?_
    show AW _ _ _ _ _ _ _ [(0, .ref (0)), (1, .int (xs (i + 1)))] _ _ _ _ _
    refine C_word_bad hl hb ?_
    refine ab_afx1 (k := 3) ct_word_IAE (by decide) d_LA_word_12 rfl ?_
    show AW _ _ _ _ _ _ 13 [(0, .ref (0)), (1, .int (xs (i + 1))), (2, .ref (69))] _ _ _ _ _
    refine aw_iconst (v := nI 1) d_LA_word_13 (by decide) ?_
    refine aw_iret d_LA_word_14 rfl (by decide) (by decide) (ab_go1 ?_)
    refine aw_istore (lv' := [(6, .int (nI (1))), (5, .int (nI (i))), (0, .ref (71)), (1, .ref (0)), (2, .ref (57)), (3, .ref (69)), (4, .ref (70))]) d_LA_law_183 (by decide) rfl ?_
    refine aw_aload_n d_LA_law_185 rfl 4 rfl ?_
    refine aw_aload_n d_LA_law_186 rfl 2 rfl ?_
    refine aw_iload d_LA_law_187 1 rfl ?_
    refine aw_iconst (v := nI 1) d_LA_law_189 (by decide) ?_
    refine aw_iaddN d_LA_law_190 ?_
    refine aw_sld d_LA_law_191 (pk_in (i + 1) L (by omega)) ?_
    refine aw_eqi (xs (i + 1)) (by rw [nI_clamp (by omega)]) ?_
    refine aw_callV (K' := k_MO_word) (As := [.int (xs (i + 1))]) (rest := []) (b := 57) d_LA_law_192 rfl rfl rfl cs_LA_77 rfl (Nat.le_of_ble_eq_true rfl) (Nat.le_of_ble_eq_true rfl) (by show n1 + 1 + 0 ≤ 601024; omega) (by show n2 + 6 + 0 ≤ 7293034; omega) (d' := 1) (w' := 22) (by decide) (by decide) ?_
    show AW _ _ _ _ _ _ _ [(0, .ref (57)), (1, .int (xs (i + 1)))] _ _ _ _ _
    refine R_word_bad hb ?_
    refine ab_go1 ?_
    refine aw_istore (lv' := [(7, .int (nI (0))), (6, .int (nI (1))), (5, .int (nI (i))), (0, .ref (71)), (1, .ref (0)), (2, .ref (57)), (3, .ref (69)), (4, .ref (70))]) d_LA_law_195 (by decide) rfl ?_
    refine aw_aload_n d_LA_law_197 rfl 5 rfl ?_
    refine aw_callV (K' := k_MO_thrown) (As := []) (rest := []) (b := 57) d_LA_law_198 rfl rfl rfl cs_LA_71 rfl (Nat.le_of_ble_eq_true rfl) (Nat.le_of_ble_eq_true rfl) (by show n1 + 1 + 0 ≤ 601024; omega) (by show n2 + 6 + 0 ≤ 7293034; omega) (d' := 0) (w' := 0) (by decide) (by decide) ?_
    show AW _ _ _ _ _ _ _ [(0, .ref (57))] _ _ _ _ _
    refine aw_aload_n d_MO_thrown_0 rfl 0 rfl ?_
    refine aw_get (ic := 57) (ci := 6) (k := 0) d_MO_thrown_1 rfl rfl (by decide) rfl mw_775 rfl ?_
    refine aw_eqi (nI (1)) (sI_hit _ _ _ _) ?_
    refine aw_iret d_MO_thrown_4 rfl (by decide) (by decide) (ab_go1 ?_)
    refine aw_iload d_LA_law_201 1 rfl ?_
    refine aw_icmp_eqN (tgt := 208) d_LA_law_203 (by decide) (by omega) (by omega) (fun c1 => ?_) (fun c1 => ?_)
    · skip
      refine aw_iload d_LA_law_208 1 rfl ?_
      refine aw_if_neN (tgt := 225) d_LA_law_210 (by decide) (by omega) (fun c2 => ?_) (fun c2 => ?_)
      · skip
        refine aw_goto (tgt := 957) d_LA_law_225 (by decide) ?_
        refine aw_pick [2, 3, 4, 5, 6, 7] rfl ?_
        exact hK D T S R _ ⟨hI.1, CI_thr ci, RI_thr ri⟩
      · skip
        exact absurd c2 (by decide)
    · skip
      exfalso; omega
  · skip
    obtain ⟨t, ht, hx⟩ : ∃ t, t < 16 ∧ xs (i + 1) = nI t := ⟨(xs (i + 1)).toInt.toNat, by omega, i32_nat (by omega)⟩
    refine aw_aload_n d_LA_law_172 rfl 2 rfl ?_
    refine aw_aload_n d_LA_law_173 rfl 1 rfl ?_
    refine aw_iload d_LA_law_174 0 rfl ?_
    refine aw_iconst (v := nI 1) d_LA_law_176 (by decide) ?_
    refine aw_iaddN d_LA_law_177 ?_
    refine aw_sld d_LA_law_178 (pk_in (i + 1) L (by omega)) ?_
    refine aw_eqi (nI (t)) (by rw [nI_clamp (by omega), hx]) ?_
    refine aw_aload_n d_LA_law_179 rfl 4 rfl ?_
    refine aw_callSW (K' := k_LA_word) (As := [.ref (0), .int (nI (t)), .ref (69)]) (rest := []) d_LA_law_180 rfl (by decide) cs_LA_75 rfl (Nat.le_of_ble_eq_true rfl) (Nat.le_of_ble_eq_true rfl) (by show n1 + 1 ≤ 601024; omega) (by show n2 + 6 ≤ 7293034; omega) (d' := 7) (w' := 111) (by decide) (by decide) ?_
    show AW _ _ _ _ _ _ _ [(0, .ref (0)), (1, .int (nI (t))), (2, .ref (69))] _ _ _ _ _
    refine aw_aload_n d_LA_word_0 rfl 2 rfl ?_
    refine aw_iconst (v := nI 0) d_LA_word_1 (by decide) ?_
    refine aw_aload_n d_LA_word_2 rfl 0 rfl ?_
    refine aw_iload_n d_LA_word_3 rfl 1 rfl ?_
    refine aw_callVX (K' := k_BF_word) (As := [.int (nI (t))]) (rest := [.int (nI (0)), .ref (69)]) (b := 0) d_LA_word_4 rfl rfl rfl cs_LA_17 rfl (Nat.le_of_ble_eq_true rfl) (Nat.le_of_ble_eq_true rfl) (by decide) (by decide) (d' := 6) (w' := 90) (by decide) (by decide) ?_
    show AW _ _ _ _ _ _ _ [(0, .ref (0)), (1, .int (nI (t)))] _ _ _ _ _
    refine C_word hl wd dc ht (fun hF => ?_) (fun hO1 hO2 => ?_)
    · skip
      refine ab_afx1 (k := 3) ct_word_ISE (by decide) d_LA_word_15 rfl ?_
      show AW _ _ _ _ _ _ 16 [(0, .ref (0)), (1, .int (nI (t))), (2, .ref (69))] _ _ _ _ _
      refine aw_iconst (v := nI 2) d_LA_word_16 (by decide) ?_
      refine aw_iret d_LA_word_17 rfl (by decide) (by decide) (ab_go1 ?_)
      refine aw_istore (lv' := [(6, .int (nI (2))), (5, .int (nI (i))), (0, .ref (71)), (1, .ref (0)), (2, .ref (57)), (3, .ref (69)), (4, .ref (70))]) d_LA_law_183 (by decide) rfl ?_
      refine aw_aload_n d_LA_law_185 rfl 4 rfl ?_
      refine aw_aload_n d_LA_law_186 rfl 2 rfl ?_
      refine aw_iload d_LA_law_187 1 rfl ?_
      refine aw_iconst (v := nI 1) d_LA_law_189 (by decide) ?_
      refine aw_iaddN d_LA_law_190 ?_
      refine aw_sld d_LA_law_191 (pk_in (i + 1) L (by omega)) ?_
      refine aw_eqi (nI (t)) (by rw [nI_clamp (by omega), hx]) ?_
      refine aw_callV (K' := k_MO_word) (As := [.int (nI (t))]) (rest := []) (b := 57) d_LA_law_192 rfl rfl rfl cs_LA_77 rfl (Nat.le_of_ble_eq_true rfl) (Nat.le_of_ble_eq_true rfl) (by show n1 + 1 + 0 ≤ 601024; omega) (by show n2 + 6 + 0 ≤ 7293034; omega) (d' := 1) (w' := 22) (by decide) (by decide) ?_
      show AW _ _ _ _ _ _ _ [(0, .ref (57)), (1, .int (nI (t)))] _ _ _ _ _
      refine R_word wd dr ht (fun _ => ?_) (fun h1 h2 => absurd ⟨h1, h2⟩ hF)
      refine ab_go1 ?_
      refine aw_istore (lv' := [(7, .int (nI (0))), (6, .int (nI (2))), (5, .int (nI (i))), (0, .ref (71)), (1, .ref (0)), (2, .ref (57)), (3, .ref (69)), (4, .ref (70))]) d_LA_law_195 (by decide) rfl ?_
      refine aw_aload_n d_LA_law_197 rfl 5 rfl ?_
      refine aw_callV (K' := k_MO_thrown) (As := []) (rest := []) (b := 57) d_LA_law_198 rfl rfl rfl cs_LA_71 rfl (Nat.le_of_ble_eq_true rfl) (Nat.le_of_ble_eq_true rfl) (by show n1 + 1 + 0 ≤ 601024; omega) (by show n2 + 6 + 0 ≤ 7293034; omega) (d' := 0) (w' := 0) (by decide) (by decide) ?_
      show AW _ _ _ _ _ _ _ [(0, .ref (57))] _ _ _ _ _
      refine aw_aload_n d_MO_thrown_0 rfl 0 rfl ?_
      refine aw_get (ic := 57) (ci := 6) (k := 0) d_MO_thrown_1 rfl rfl (by decide) rfl mw_775 rfl ?_
      refine aw_eqi (nI (2)) (sI_hit _ _ _ _) ?_
      refine aw_iret d_MO_thrown_4 rfl (by decide) (by decide) (ab_go1 ?_)
      refine aw_iload d_LA_law_201 1 rfl ?_
      refine aw_icmp_eqN (tgt := 208) d_LA_law_203 (by decide) (by omega) (by omega) (fun c1 => ?_) (fun c1 => ?_)
      · skip
        refine aw_iload d_LA_law_208 1 rfl ?_
        refine aw_if_neN (tgt := 225) d_LA_law_210 (by decide) (by omega) (fun c2 => ?_) (fun c2 => ?_)
        · skip
          refine aw_goto (tgt := 957) d_LA_law_225 (by decide) ?_
          refine aw_pick [2, 3, 4, 5, 6, 7] rfl ?_
          exact hK D T S R _ ⟨hI.1, CI_thr ci, RI_thr ri⟩
        · skip
          exact absurd c2 (by decide)
      · skip
        exfalso; omega
    · skip
      refine ab_af1 ?_
      refine aw_i2l d_LA_word_7 ?_
      refine aw_lastN d_LA_word_8 rfl (by decide) (by omega) ?_
      refine aw_goto (tgt := 18) d_LA_word_9 (by decide) ?_
      refine aw_iconst (v := nI 0) d_LA_word_18 (by decide) ?_
      refine aw_iret d_LA_word_19 rfl (by decide) (by decide) (ab_go1 ?_)
      refine aw_istore (lv' := [(6, .int (nI (0))), (5, .int (nI (i))), (0, .ref (71)), (1, .ref (0)), (2, .ref (57)), (3, .ref (69)), (4, .ref (70))]) d_LA_law_183 (by decide) rfl ?_
      refine aw_aload_n d_LA_law_185 rfl 4 rfl ?_
      refine aw_aload_n d_LA_law_186 rfl 2 rfl ?_
      refine aw_iload d_LA_law_187 1 rfl ?_
      refine aw_iconst (v := nI 1) d_LA_law_189 (by decide) ?_
      refine aw_iaddN d_LA_law_190 ?_
      refine aw_sld d_LA_law_191 (pk_in (i + 1) L (by omega)) ?_
      refine aw_eqi (nI (t)) (by rw [nI_clamp (by omega), hx]) ?_
      refine aw_callV (K' := k_MO_word) (As := [.int (nI (t))]) (rest := []) (b := 57) d_LA_law_192 rfl rfl rfl cs_LA_77 rfl (Nat.le_of_ble_eq_true rfl) (Nat.le_of_ble_eq_true rfl) (by show n1 + 1 + 0 ≤ 601024; omega) (by show n2 + 6 + 0 ≤ 7293034; omega) (d' := 1) (w' := 22) (by decide) (by decide) ?_
      show AW _ _ _ _ _ _ _ [(0, .ref (57)), (1, .int (nI (t)))] _ _ _ _ _
      have r1 : RI D T S R (ab_sJ (wordC D t M) (69) (0) (Int32.toInt64 (nI (dl D (dn D - 1) + 1)))) := RI_J (RI_frR ri (wordC_ok wd hO1 hO2 ci).2)
      refine R_word wd r1.1 ht (fun h => absurd ⟨hO1, hO2⟩ h) (fun _ _ => ?_)
      refine ab_go1 ?_
      refine aw_istore (lv' := [(7, .int (nI (dl D (dn D - 1) + 1))), (6, .int (nI (0))), (5, .int (nI (i))), (0, .ref (71)), (1, .ref (0)), (2, .ref (57)), (3, .ref (69)), (4, .ref (70))]) d_LA_law_195 (by decide) rfl ?_
      refine aw_aload_n d_LA_law_197 rfl 5 rfl ?_
      refine aw_callV (K' := k_MO_thrown) (As := []) (rest := []) (b := 57) d_LA_law_198 rfl rfl rfl cs_LA_71 rfl (Nat.le_of_ble_eq_true rfl) (Nat.le_of_ble_eq_true rfl) (by show n1 + 1 + 0 ≤ 601024; omega) (by show n2 + 6 + 0 ≤ 7293034; omega) (d' := 0) (w' := 0) (by decide) (by decide) ?_
      show AW _ _ _ _ _ _ _ [(0, .ref (57))] _ _ _ _ _
      refine aw_aload_n d_MO_thrown_0 rfl 0 rfl ?_
      refine aw_get (ic := 57) (ci := 6) (k := 0) d_MO_thrown_1 rfl rfl (by decide) rfl mw_775 rfl ?_
      refine aw_eqi (nI (0)) (wordR_ok wd hO1 hO2 r1).2.2 ?_
      refine aw_iret d_MO_thrown_4 rfl (by decide) (by decide) (ab_go1 ?_)
      refine aw_iload d_LA_law_201 1 rfl ?_
      refine aw_icmp_eqN (tgt := 208) d_LA_law_203 (by decide) (by omega) (by omega) (fun c3 => ?_) (fun c3 => ?_)
      · skip
        refine aw_iload d_LA_law_208 1 rfl ?_
        refine aw_if_neN (tgt := 225) d_LA_law_210 (by decide) (by omega) (fun c4 => ?_) (fun c4 => ?_)
        · skip
          exact absurd c4 (by decide)
        · skip
          refine aw_aload_n d_LA_law_213 rfl 6 rfl ?_
          refine aw_iconst (v := nI 0) d_LA_law_214 (by decide) ?_
          refine aw_laldN d_LA_law_215 rfl (by decide) (by omega) ?_
          refine aw_eql (Int32.toInt64 (nI (dl D (dn D - 1) + 1))) (((wordR_ok wd hO1 hO2 r1).2.1 69 0 (by omega)).2.2.trans (sJ_hit _ _ _ _)) ?_
          refine aw_iload d_LA_law_216 0 rfl ?_
          refine aw_i2l d_LA_law_218 ?_
          refine aw_lcmp d_LA_law_219 ?_
          refine aw_eqi (nI (0)) (lg_self _) ?_
          refine aw_if_eqN (tgt := 225) d_LA_law_220 (by decide) (by omega) (fun c5 => ?_) (fun c5 => ?_)
          · skip
            refine aw_goto (tgt := 957) d_LA_law_225 (by decide) ?_
            refine aw_pick [2, 3, 4, 5, 6, 7] rfl ?_
            exact hK (wordD D t) T S R _ ⟨⟨wordD_w wd hO1 hO2 ht, wq, ws, wordD_r wr⟩, CI_frC (CI_J (wordC_ok wd hO1 hO2 ci).1) (wordR_ok wd hO1 hO2 r1).2.1, (wordR_ok wd hO1 hO2 r1).1⟩
          · skip
            exact absurd c5 (by decide)
      · skip
        exfalso; omega
set_option maxRecDepth 8000 in
theorem LC_smooth {l : Launch} {b L : Nat} {xs : Nat → Int32} {M : ab_M} {Q : ab_O → ab_M → Prop} {n1 n2 : Nat} (hl : l.stackTraces = false) {D : Dg} {T : Qg} {S : Sg} {R : Rg} (hI : INV D T S R M) {i : Nat} (hi : i + 4 ≤ L) (hL : L ≤ 2048) (hn1 : n1 + 1 ≤ 601024) (hn2 : n2 + 6 ≤ 7293034) (hK : ∀ (D : Dg) (T : Qg) (S : Sg) (R : Rg) (M' : ab_M), INV D T S R M' → AW sys l (ab_Zs9 sys 71 b L xs) k_LA_law 9 207 957 [(5, .int (nI (i))), (0, .ref (71)), (1, .ref (0)), (2, .ref (57)), (3, .ref (69)), (4, .ref (70))] [] M' (n1 + 1) (n2 + 6) Q) : AW sys l (ab_Zs9 sys 71 b L xs) k_LA_law 9 207 228 [(5, .int (nI (i))), (0, .ref (71)), (1, .ref (0)), (2, .ref (57)), (3, .ref (69)), (4, .ref (70))] [] M n1 n2 Q := by
  obtain ⟨⟨wd, wq, ws, wr⟩, ci, ri⟩ := id hI
  obtain ⟨dc, qc, sc, rc⟩ := id ci
  obtain ⟨dr, qr, sr, rr⟩ := id ri
  by_cases hb : (xs (i + 1)).toInt ≠ 0 ∧ (xs (i + 1)).toInt ≠ 1
  · skip
    refine aw_aload_n d_LA_law_228 rfl 2 rfl ?_
    refine aw_aload_n d_LA_law_229 rfl 1 rfl ?_
    refine aw_iload d_LA_law_230 0 rfl ?_
    refine aw_iconst (v := nI 1) d_LA_law_232 (by decide) ?_
    refine aw_iaddN d_LA_law_233 ?_
    refine aw_sld d_LA_law_234 (pk_in (i + 1) L (by omega)) ?_
    refine aw_eqi (xs (i + 1)) (by rw [nI_clamp (by omega)]) ?_
    refine aw_aload_n d_LA_law_235 rfl 1 rfl ?_
    refine aw_iload d_LA_law_236 0 rfl ?_
    refine aw_iconst (v := nI 2) d_LA_law_238 (by decide) ?_
    refine aw_iaddN d_LA_law_239 ?_
    refine aw_sld d_LA_law_240 (pk_in (i + 2) L (by omega)) ?_
    refine aw_eqi (xs (i + 2)) (by rw [nI_clamp (by omega)]) ?_
    refine aw_i2d d_LA_law_241 ?_
    refine aw_ldc2d (v := 4593671619917905920) d_LA_law_242 mw_977 ?_
    refine aw_dmul d_LA_law_245 (f_n64 (f_mul_n (fF_i _) fF_8th)) ?_
    refine aw_eqd (e8 (xs (i + 2))) rfl ?_
    refine aw_aload_n d_LA_law_246 rfl 4 rfl ?_
    refine aw_callSW (K' := k_LA_smooth) (As := [.ref (0), .int (xs (i + 1)), .double (e8 (xs (i + 2))), .ref (69)]) (rest := []) d_LA_law_247 rfl (by decide) cs_LA_80 rfl (Nat.le_of_ble_eq_true rfl) (Nat.le_of_ble_eq_true rfl) (by show n1 + 1 ≤ 601024; omega) (by show n2 + 6 ≤ 7293034; omega) (d' := 7) (w' := 113) (by decide) (by decide) ?_
    show AW _ _ _ _ _ _ _ [(0, .ref (0)), (1, .int (xs (i + 1))), (2, .double (e8 (xs (i + 2)))), (4, .ref (69))] _ _ _ _ _
    refine aw_aload d_LA_smooth_0 3 rfl ?_
    refine aw_iconst (v := nI 0) d_LA_smooth_2 (by decide) ?_
    refine aw_aload_n d_LA_smooth_3 rfl 0 rfl ?_
    refine aw_iload_n d_LA_smooth_4 rfl 1 rfl ?_
    refine aw_dload_n d_LA_smooth_5 rfl 2 rfl ?_
    refine aw_callVX (K' := k_BF_smooth) (As := [.int (xs (i + 1)), .double (e8 (xs (i + 2)))]) (rest := [.int (nI (0)), .ref (69)]) (b := 0) d_LA_smooth_6 rfl rfl rfl cs_LA_20 rfl (Nat.le_of_ble_eq_true rfl) (Nat.le_of_ble_eq_true rfl) (by decide) (by decide) (d' := 6) (w' := 90) (by decide) (by decide) ?_
    show AW _ _ _ _ _ _ _ [(0, .ref (0)), (1, .int (xs (i + 1))), (2, .double (e8 (xs (i + 2))))] _ _ _ _ _
    refine C_smooth_bad hl hb ?_
    refine ab_afx2 ct_smooth_IAE (by decide) d_LA_smooth_14 ?_
    show AW _ _ _ _ _ _ 16 [(0, .ref (0)), (1, .int (xs (i + 1))), (2, .double (e8 (xs (i + 2)))), (4, .ref (69))] _ _ _ _ _
    refine aw_iconst (v := nI 1) d_LA_smooth_16 (by decide) ?_
    refine aw_iret d_LA_smooth_17 rfl (by decide) (by decide) (ab_go1 ?_)
    refine aw_istore (lv' := [(6, .int (nI (1))), (5, .int (nI (i))), (0, .ref (71)), (1, .ref (0)), (2, .ref (57)), (3, .ref (69)), (4, .ref (70))]) d_LA_law_250 (by decide) rfl ?_
    refine aw_aload_n d_LA_law_252 rfl 4 rfl ?_
    refine aw_aload_n d_LA_law_253 rfl 2 rfl ?_
    refine aw_iload d_LA_law_254 1 rfl ?_
    refine aw_iconst (v := nI 1) d_LA_law_256 (by decide) ?_
    refine aw_iaddN d_LA_law_257 ?_
    refine aw_sld d_LA_law_258 (pk_in (i + 1) L (by omega)) ?_
    refine aw_eqi (xs (i + 1)) (by rw [nI_clamp (by omega)]) ?_
    refine aw_aload_n d_LA_law_259 rfl 2 rfl ?_
    refine aw_iload d_LA_law_260 1 rfl ?_
    refine aw_iconst (v := nI 2) d_LA_law_262 (by decide) ?_
    refine aw_iaddN d_LA_law_263 ?_
    refine aw_sld d_LA_law_264 (pk_in (i + 2) L (by omega)) ?_
    refine aw_eqi (xs (i + 2)) (by rw [nI_clamp (by omega)]) ?_
    refine aw_i2d d_LA_law_265 ?_
    refine aw_ldc2d (v := 4593671619917905920) d_LA_law_266 mw_977 ?_
    refine aw_dmul d_LA_law_269 (f_n64 (f_mul_n (fF_i _) fF_8th)) ?_
    refine aw_eqd (e8 (xs (i + 2))) rfl ?_
    refine aw_callV (K' := k_MO_smooth) (As := [.int (xs (i + 1)), .double (e8 (xs (i + 2)))]) (rest := []) (b := 57) d_LA_law_270 rfl rfl rfl cs_LA_83 rfl (Nat.le_of_ble_eq_true rfl) (Nat.le_of_ble_eq_true rfl) (by show n1 + 1 + 0 ≤ 601024; omega) (by show n2 + 6 + 0 ≤ 7293034; omega) (d' := 1) (w' := 22) (by decide) (by decide) ?_
    show AW _ _ _ _ _ _ _ [(0, .ref (57)), (1, .int (xs (i + 1))), (2, .double (e8 (xs (i + 2))))] _ _ _ _ _
    refine R_smooth_bad hb ?_
    refine ab_go1 ?_
    refine aw_istore (lv' := [(7, .int (nI (0))), (6, .int (nI (1))), (5, .int (nI (i))), (0, .ref (71)), (1, .ref (0)), (2, .ref (57)), (3, .ref (69)), (4, .ref (70))]) d_LA_law_273 (by decide) rfl ?_
    refine aw_aload_n d_LA_law_275 rfl 5 rfl ?_
    refine aw_callV (K' := k_MO_thrown) (As := []) (rest := []) (b := 57) d_LA_law_276 rfl rfl rfl cs_LA_71 rfl (Nat.le_of_ble_eq_true rfl) (Nat.le_of_ble_eq_true rfl) (by show n1 + 1 + 0 ≤ 601024; omega) (by show n2 + 6 + 0 ≤ 7293034; omega) (d' := 0) (w' := 0) (by decide) (by decide) ?_
    show AW _ _ _ _ _ _ _ [(0, .ref (57))] _ _ _ _ _
    refine aw_aload_n d_MO_thrown_0 rfl 0 rfl ?_
    refine aw_get (ic := 57) (ci := 6) (k := 0) d_MO_thrown_1 rfl rfl (by decide) rfl mw_775 rfl ?_
    refine aw_eqi (nI (1)) (sI_hit _ _ _ _) ?_
    refine aw_iret d_MO_thrown_4 rfl (by decide) (by decide) (ab_go1 ?_)
    refine aw_iload d_LA_law_279 1 rfl ?_
    refine aw_icmp_eqN (tgt := 286) d_LA_law_281 (by decide) (by omega) (by omega) (fun c1 => ?_) (fun c1 => ?_)
    · skip
      refine aw_iload d_LA_law_286 1 rfl ?_
      refine aw_if_neN (tgt := 303) d_LA_law_288 (by decide) (by omega) (fun c2 => ?_) (fun c2 => ?_)
      · skip
        refine aw_goto (tgt := 957) d_LA_law_303 (by decide) ?_
        refine aw_pick [2, 3, 4, 5, 6, 7] rfl ?_
        exact hK D T S R _ ⟨hI.1, CI_thr ci, RI_thr ri⟩
      · skip
        exact absurd c2 (by decide)
    · skip
      exfalso; omega
  · skip
    have hs1 := ws.1
    have fm := e8_f (xs (i + 2))
    by_cases h0 : (xs (i + 1)).toInt = 0
    · skip
      have hx : xs (i + 1) = nI 0 := by have := i32_nat (s := xs (i + 1)) (by omega); rw [show (xs (i + 1)).toInt.toNat = 0 by omega] at this; exact this
      refine aw_aload_n d_LA_law_228 rfl 2 rfl ?_
      refine aw_aload_n d_LA_law_229 rfl 1 rfl ?_
      refine aw_iload d_LA_law_230 0 rfl ?_
      refine aw_iconst (v := nI 1) d_LA_law_232 (by decide) ?_
      refine aw_iaddN d_LA_law_233 ?_
      refine aw_sld d_LA_law_234 (pk_in (i + 1) L (by omega)) ?_
      refine aw_eqi (nI (0)) (by rw [nI_clamp (by omega), hx]) ?_
      refine aw_aload_n d_LA_law_235 rfl 1 rfl ?_
      refine aw_iload d_LA_law_236 0 rfl ?_
      refine aw_iconst (v := nI 2) d_LA_law_238 (by decide) ?_
      refine aw_iaddN d_LA_law_239 ?_
      refine aw_sld d_LA_law_240 (pk_in (i + 2) L (by omega)) ?_
      refine aw_eqi (xs (i + 2)) (by rw [nI_clamp (by omega)]) ?_
      refine aw_i2d d_LA_law_241 ?_
      refine aw_ldc2d (v := 4593671619917905920) d_LA_law_242 mw_977 ?_
      refine aw_dmul d_LA_law_245 (f_n64 (f_mul_n (fF_i _) fF_8th)) ?_
      refine aw_eqd (e8 (xs (i + 2))) rfl ?_
      refine aw_aload_n d_LA_law_246 rfl 4 rfl ?_
      refine aw_callSW (K' := k_LA_smooth) (As := [.ref (0), .int (nI (0)), .double (e8 (xs (i + 2))), .ref (69)]) (rest := []) d_LA_law_247 rfl (by decide) cs_LA_80 rfl (Nat.le_of_ble_eq_true rfl) (Nat.le_of_ble_eq_true rfl) (by show n1 + 1 ≤ 601024; omega) (by show n2 + 6 ≤ 7293034; omega) (d' := 7) (w' := 113) (by decide) (by decide) ?_
      show AW _ _ _ _ _ _ _ [(0, .ref (0)), (1, .int (nI (0))), (2, .double (e8 (xs (i + 2)))), (4, .ref (69))] _ _ _ _ _
      refine aw_aload d_LA_smooth_0 3 rfl ?_
      refine aw_iconst (v := nI 0) d_LA_smooth_2 (by decide) ?_
      refine aw_aload_n d_LA_smooth_3 rfl 0 rfl ?_
      refine aw_iload_n d_LA_smooth_4 rfl 1 rfl ?_
      refine aw_dload_n d_LA_smooth_5 rfl 2 rfl ?_
      refine aw_callVX (K' := k_BF_smooth) (As := [.int (nI (0)), .double (e8 (xs (i + 2)))]) (rest := [.int (nI (0)), .ref (69)]) (b := 0) d_LA_smooth_6 rfl rfl rfl cs_LA_20 rfl (Nat.le_of_ble_eq_true rfl) (Nat.le_of_ble_eq_true rfl) (by decide) (by decide) (d' := 6) (w' := 90) (by decide) (by decide) ?_
      show AW _ _ _ _ _ _ _ [(0, .ref (0)), (1, .int (nI (0))), (2, .double (e8 (xs (i + 2))))] _ _ _ _ _
      refine C_smooth0 hl sc hs1 fm (fun hF => ?_) (fun hO1 hO2 => ?_)
      · skip
        refine ab_afx2 ct_smooth_IAE (by decide) d_LA_smooth_14 ?_
        show AW _ _ _ _ _ _ 16 [(0, .ref (0)), (1, .int (nI (0))), (2, .double (e8 (xs (i + 2)))), (4, .ref (69))] _ _ _ _ _
        refine aw_iconst (v := nI 1) d_LA_smooth_16 (by decide) ?_
        refine aw_iret d_LA_smooth_17 rfl (by decide) (by decide) (ab_go1 ?_)
        refine aw_istore (lv' := [(6, .int (nI (1))), (5, .int (nI (i))), (0, .ref (71)), (1, .ref (0)), (2, .ref (57)), (3, .ref (69)), (4, .ref (70))]) d_LA_law_250 (by decide) rfl ?_
        refine aw_aload_n d_LA_law_252 rfl 4 rfl ?_
        refine aw_aload_n d_LA_law_253 rfl 2 rfl ?_
        refine aw_iload d_LA_law_254 1 rfl ?_
        refine aw_iconst (v := nI 1) d_LA_law_256 (by decide) ?_
        refine aw_iaddN d_LA_law_257 ?_
        refine aw_sld d_LA_law_258 (pk_in (i + 1) L (by omega)) ?_
        refine aw_eqi (nI (0)) (by rw [nI_clamp (by omega), hx]) ?_
        refine aw_aload_n d_LA_law_259 rfl 2 rfl ?_
        refine aw_iload d_LA_law_260 1 rfl ?_
        refine aw_iconst (v := nI 2) d_LA_law_262 (by decide) ?_
        refine aw_iaddN d_LA_law_263 ?_
        refine aw_sld d_LA_law_264 (pk_in (i + 2) L (by omega)) ?_
        refine aw_eqi (xs (i + 2)) (by rw [nI_clamp (by omega)]) ?_
        refine aw_i2d d_LA_law_265 ?_
        refine aw_ldc2d (v := 4593671619917905920) d_LA_law_266 mw_977 ?_
        refine aw_dmul d_LA_law_269 (f_n64 (f_mul_n (fF_i _) fF_8th)) ?_
        refine aw_eqd (e8 (xs (i + 2))) rfl ?_
        refine aw_callV (K' := k_MO_smooth) (As := [.int (nI (0)), .double (e8 (xs (i + 2)))]) (rest := []) (b := 57) d_LA_law_270 rfl rfl rfl cs_LA_83 rfl (Nat.le_of_ble_eq_true rfl) (Nat.le_of_ble_eq_true rfl) (by show n1 + 1 + 0 ≤ 601024; omega) (by show n2 + 6 + 0 ≤ 7293034; omega) (d' := 1) (w' := 22) (by decide) (by decide) ?_
        show AW _ _ _ _ _ _ _ [(0, .ref (57)), (1, .int (nI (0))), (2, .double (e8 (xs (i + 2))))] _ _ _ _ _
        refine R_smooth0 sr hs1 fm (fun _ => ?_) (fun h1 h2 => absurd ⟨h1, h2⟩ hF)
        refine ab_go1 ?_
        refine aw_istore (lv' := [(7, .int (nI (0))), (6, .int (nI (1))), (5, .int (nI (i))), (0, .ref (71)), (1, .ref (0)), (2, .ref (57)), (3, .ref (69)), (4, .ref (70))]) d_LA_law_273 (by decide) rfl ?_
        refine aw_aload_n d_LA_law_275 rfl 5 rfl ?_
        refine aw_callV (K' := k_MO_thrown) (As := []) (rest := []) (b := 57) d_LA_law_276 rfl rfl rfl cs_LA_71 rfl (Nat.le_of_ble_eq_true rfl) (Nat.le_of_ble_eq_true rfl) (by show n1 + 1 + 0 ≤ 601024; omega) (by show n2 + 6 + 0 ≤ 7293034; omega) (d' := 0) (w' := 0) (by decide) (by decide) ?_
        show AW _ _ _ _ _ _ _ [(0, .ref (57))] _ _ _ _ _
        refine aw_aload_n d_MO_thrown_0 rfl 0 rfl ?_
        refine aw_get (ic := 57) (ci := 6) (k := 0) d_MO_thrown_1 rfl rfl (by decide) rfl mw_775 rfl ?_
        refine aw_eqi (nI (1)) (sI_hit _ _ _ _) ?_
        refine aw_iret d_MO_thrown_4 rfl (by decide) (by decide) (ab_go1 ?_)
        refine aw_iload d_LA_law_279 1 rfl ?_
        refine aw_icmp_eqN (tgt := 286) d_LA_law_281 (by decide) (by omega) (by omega) (fun c1 => ?_) (fun c1 => ?_)
        · skip
          refine aw_iload d_LA_law_286 1 rfl ?_
          refine aw_if_neN (tgt := 303) d_LA_law_288 (by decide) (by omega) (fun c2 => ?_) (fun c2 => ?_)
          · skip
            refine aw_goto (tgt := 957) d_LA_law_303 (by decide) ?_
            refine aw_pick [2, 3, 4, 5, 6, 7] rfl ?_
            exact hK D T S R _ ⟨hI.1, CI_thr ci, RI_thr ri⟩
          · skip
            exact absurd c2 (by decide)
        · skip
          exfalso; omega
      · skip
        refine ab_af1 ?_
        refine aw_i2l d_LA_smooth_9 ?_
        refine aw_lastN d_LA_smooth_10 rfl (by decide) (by omega) ?_
        refine aw_goto (tgt := 18) d_LA_smooth_11 (by decide) ?_
        refine aw_iconst (v := nI 0) d_LA_smooth_18 (by decide) ?_
        refine aw_iret d_LA_smooth_19 rfl (by decide) (by decide) (ab_go1 ?_)
        refine aw_istore (lv' := [(6, .int (nI (0))), (5, .int (nI (i))), (0, .ref (71)), (1, .ref (0)), (2, .ref (57)), (3, .ref (69)), (4, .ref (70))]) d_LA_law_250 (by decide) rfl ?_
        refine aw_aload_n d_LA_law_252 rfl 4 rfl ?_
        refine aw_aload_n d_LA_law_253 rfl 2 rfl ?_
        refine aw_iload d_LA_law_254 1 rfl ?_
        refine aw_iconst (v := nI 1) d_LA_law_256 (by decide) ?_
        refine aw_iaddN d_LA_law_257 ?_
        refine aw_sld d_LA_law_258 (pk_in (i + 1) L (by omega)) ?_
        refine aw_eqi (nI (0)) (by rw [nI_clamp (by omega), hx]) ?_
        refine aw_aload_n d_LA_law_259 rfl 2 rfl ?_
        refine aw_iload d_LA_law_260 1 rfl ?_
        refine aw_iconst (v := nI 2) d_LA_law_262 (by decide) ?_
        refine aw_iaddN d_LA_law_263 ?_
        refine aw_sld d_LA_law_264 (pk_in (i + 2) L (by omega)) ?_
        refine aw_eqi (xs (i + 2)) (by rw [nI_clamp (by omega)]) ?_
        refine aw_i2d d_LA_law_265 ?_
        refine aw_ldc2d (v := 4593671619917905920) d_LA_law_266 mw_977 ?_
        refine aw_dmul d_LA_law_269 (f_n64 (f_mul_n (fF_i _) fF_8th)) ?_
        refine aw_eqd (e8 (xs (i + 2))) rfl ?_
        refine aw_callV (K' := k_MO_smooth) (As := [.int (nI (0)), .double (e8 (xs (i + 2)))]) (rest := []) (b := 57) d_LA_law_270 rfl rfl rfl cs_LA_83 rfl (Nat.le_of_ble_eq_true rfl) (Nat.le_of_ble_eq_true rfl) (by show n1 + 1 + 0 ≤ 601024; omega) (by show n2 + 6 + 0 ≤ 7293034; omega) (d' := 1) (w' := 22) (by decide) (by decide) ?_
        show AW _ _ _ _ _ _ _ [(0, .ref (57)), (1, .int (nI (0))), (2, .double (e8 (xs (i + 2))))] _ _ _ _ _
        have r1 : RI D T S R (ab_sJ (smC 0 (e8 (xs (i + 2))) M) (69) (0) (Int32.toInt64 (nI (S.1)))) := RI_J (RI_frR ri (smC_ok ci).2)
        refine R_smooth0 r1.2.2.1 hs1 fm (fun h => absurd ⟨hO1, hO2⟩ h) (fun _ _ => ?_)
        refine ab_go1 ?_
        refine aw_istore (lv' := [(7, .int (nI (S.1))), (6, .int (nI (0))), (5, .int (nI (i))), (0, .ref (71)), (1, .ref (0)), (2, .ref (57)), (3, .ref (69)), (4, .ref (70))]) d_LA_law_273 (by decide) rfl ?_
        refine aw_aload_n d_LA_law_275 rfl 5 rfl ?_
        refine aw_callV (K' := k_MO_thrown) (As := []) (rest := []) (b := 57) d_LA_law_276 rfl rfl rfl cs_LA_71 rfl (Nat.le_of_ble_eq_true rfl) (Nat.le_of_ble_eq_true rfl) (by show n1 + 1 + 0 ≤ 601024; omega) (by show n2 + 6 + 0 ≤ 7293034; omega) (d' := 0) (w' := 0) (by decide) (by decide) ?_
        show AW _ _ _ _ _ _ _ [(0, .ref (57))] _ _ _ _ _
        refine aw_aload_n d_MO_thrown_0 rfl 0 rfl ?_
        refine aw_get (ic := 57) (ci := 6) (k := 0) d_MO_thrown_1 rfl rfl (by decide) rfl mw_775 rfl ?_
        refine aw_eqi (nI (0)) (smR_ok r1).2.2 ?_
        refine aw_iret d_MO_thrown_4 rfl (by decide) (by decide) (ab_go1 ?_)
        refine aw_iload d_LA_law_279 1 rfl ?_
        refine aw_icmp_eqN (tgt := 286) d_LA_law_281 (by decide) (by omega) (by omega) (fun c3 => ?_) (fun c3 => ?_)
        · skip
          refine aw_iload d_LA_law_286 1 rfl ?_
          refine aw_if_neN (tgt := 303) d_LA_law_288 (by decide) (by omega) (fun c4 => ?_) (fun c4 => ?_)
          · skip
            exact absurd c4 (by decide)
          · skip
            refine aw_aload_n d_LA_law_291 rfl 6 rfl ?_
            refine aw_iconst (v := nI 0) d_LA_law_292 (by decide) ?_
            refine aw_laldN d_LA_law_293 rfl (by decide) (by omega) ?_
            refine aw_eql (Int32.toInt64 (nI (S.1))) (((smR_ok r1).2.1 69 0 (by omega)).2.2.trans (sJ_hit _ _ _ _)) ?_
            refine aw_iload d_LA_law_294 0 rfl ?_
            refine aw_i2l d_LA_law_296 ?_
            refine aw_lcmp d_LA_law_297 ?_
            refine aw_eqi (nI (0)) (lg_self _) ?_
            refine aw_if_eqN (tgt := 303) d_LA_law_298 (by decide) (by omega) (fun c5 => ?_) (fun c5 => ?_)
            · skip
              refine aw_goto (tgt := 957) d_LA_law_303 (by decide) ?_
              refine aw_pick [2, 3, 4, 5, 6, 7] rfl ?_
              exact hK D T (0, e8 (xs (i + 2))) R _ ⟨⟨wd, wq, e8_ws (by omega) hO1 (by first | (rw [if_pos rfl]; exact hO2) | (rw [if_neg (by omega)]; exact hO2)), wr⟩, CI_frC (CI_J (smC_ok ci).1) (smR_ok r1).2.1, (smR_ok r1).1⟩
            · skip
              exact absurd c5 (by decide)
        · skip
          exfalso; omega
    · skip
      have hx : xs (i + 1) = nI 1 := by have := i32_nat (s := xs (i + 1)) (by omega); rw [show (xs (i + 1)).toInt.toNat = 1 by omega] at this; exact this
      refine aw_aload_n d_LA_law_228 rfl 2 rfl ?_
      refine aw_aload_n d_LA_law_229 rfl 1 rfl ?_
      refine aw_iload d_LA_law_230 0 rfl ?_
      refine aw_iconst (v := nI 1) d_LA_law_232 (by decide) ?_
      refine aw_iaddN d_LA_law_233 ?_
      refine aw_sld d_LA_law_234 (pk_in (i + 1) L (by omega)) ?_
      refine aw_eqi (nI (1)) (by rw [nI_clamp (by omega), hx]) ?_
      refine aw_aload_n d_LA_law_235 rfl 1 rfl ?_
      refine aw_iload d_LA_law_236 0 rfl ?_
      refine aw_iconst (v := nI 2) d_LA_law_238 (by decide) ?_
      refine aw_iaddN d_LA_law_239 ?_
      refine aw_sld d_LA_law_240 (pk_in (i + 2) L (by omega)) ?_
      refine aw_eqi (xs (i + 2)) (by rw [nI_clamp (by omega)]) ?_
      refine aw_i2d d_LA_law_241 ?_
      refine aw_ldc2d (v := 4593671619917905920) d_LA_law_242 mw_977 ?_
      refine aw_dmul d_LA_law_245 (f_n64 (f_mul_n (fF_i _) fF_8th)) ?_
      refine aw_eqd (e8 (xs (i + 2))) rfl ?_
      refine aw_aload_n d_LA_law_246 rfl 4 rfl ?_
      refine aw_callSW (K' := k_LA_smooth) (As := [.ref (0), .int (nI (1)), .double (e8 (xs (i + 2))), .ref (69)]) (rest := []) d_LA_law_247 rfl (by decide) cs_LA_80 rfl (Nat.le_of_ble_eq_true rfl) (Nat.le_of_ble_eq_true rfl) (by show n1 + 1 ≤ 601024; omega) (by show n2 + 6 ≤ 7293034; omega) (d' := 7) (w' := 113) (by decide) (by decide) ?_
      show AW _ _ _ _ _ _ _ [(0, .ref (0)), (1, .int (nI (1))), (2, .double (e8 (xs (i + 2)))), (4, .ref (69))] _ _ _ _ _
      refine aw_aload d_LA_smooth_0 3 rfl ?_
      refine aw_iconst (v := nI 0) d_LA_smooth_2 (by decide) ?_
      refine aw_aload_n d_LA_smooth_3 rfl 0 rfl ?_
      refine aw_iload_n d_LA_smooth_4 rfl 1 rfl ?_
      refine aw_dload_n d_LA_smooth_5 rfl 2 rfl ?_
      refine aw_callVX (K' := k_BF_smooth) (As := [.int (nI (1)), .double (e8 (xs (i + 2)))]) (rest := [.int (nI (0)), .ref (69)]) (b := 0) d_LA_smooth_6 rfl rfl rfl cs_LA_20 rfl (Nat.le_of_ble_eq_true rfl) (Nat.le_of_ble_eq_true rfl) (by decide) (by decide) (d' := 6) (w' := 90) (by decide) (by decide) ?_
      show AW _ _ _ _ _ _ _ [(0, .ref (0)), (1, .int (nI (1))), (2, .double (e8 (xs (i + 2))))] _ _ _ _ _
      refine C_smooth1 hl sc hs1 fm (fun hF => ?_) (fun hO1 hO2 => ?_)
      · skip
        refine ab_afx2 ct_smooth_IAE (by decide) d_LA_smooth_14 ?_
        show AW _ _ _ _ _ _ 16 [(0, .ref (0)), (1, .int (nI (1))), (2, .double (e8 (xs (i + 2)))), (4, .ref (69))] _ _ _ _ _
        refine aw_iconst (v := nI 1) d_LA_smooth_16 (by decide) ?_
        refine aw_iret d_LA_smooth_17 rfl (by decide) (by decide) (ab_go1 ?_)
        refine aw_istore (lv' := [(6, .int (nI (1))), (5, .int (nI (i))), (0, .ref (71)), (1, .ref (0)), (2, .ref (57)), (3, .ref (69)), (4, .ref (70))]) d_LA_law_250 (by decide) rfl ?_
        refine aw_aload_n d_LA_law_252 rfl 4 rfl ?_
        refine aw_aload_n d_LA_law_253 rfl 2 rfl ?_
        refine aw_iload d_LA_law_254 1 rfl ?_
        refine aw_iconst (v := nI 1) d_LA_law_256 (by decide) ?_
        refine aw_iaddN d_LA_law_257 ?_
        refine aw_sld d_LA_law_258 (pk_in (i + 1) L (by omega)) ?_
        refine aw_eqi (nI (1)) (by rw [nI_clamp (by omega), hx]) ?_
        refine aw_aload_n d_LA_law_259 rfl 2 rfl ?_
        refine aw_iload d_LA_law_260 1 rfl ?_
        refine aw_iconst (v := nI 2) d_LA_law_262 (by decide) ?_
        refine aw_iaddN d_LA_law_263 ?_
        refine aw_sld d_LA_law_264 (pk_in (i + 2) L (by omega)) ?_
        refine aw_eqi (xs (i + 2)) (by rw [nI_clamp (by omega)]) ?_
        refine aw_i2d d_LA_law_265 ?_
        refine aw_ldc2d (v := 4593671619917905920) d_LA_law_266 mw_977 ?_
        refine aw_dmul d_LA_law_269 (f_n64 (f_mul_n (fF_i _) fF_8th)) ?_
        refine aw_eqd (e8 (xs (i + 2))) rfl ?_
        refine aw_callV (K' := k_MO_smooth) (As := [.int (nI (1)), .double (e8 (xs (i + 2)))]) (rest := []) (b := 57) d_LA_law_270 rfl rfl rfl cs_LA_83 rfl (Nat.le_of_ble_eq_true rfl) (Nat.le_of_ble_eq_true rfl) (by show n1 + 1 + 0 ≤ 601024; omega) (by show n2 + 6 + 0 ≤ 7293034; omega) (d' := 1) (w' := 22) (by decide) (by decide) ?_
        show AW _ _ _ _ _ _ _ [(0, .ref (57)), (1, .int (nI (1))), (2, .double (e8 (xs (i + 2))))] _ _ _ _ _
        refine R_smooth1 sr hs1 fm (fun _ => ?_) (fun h1 h2 => absurd ⟨h1, h2⟩ hF)
        refine ab_go1 ?_
        refine aw_istore (lv' := [(7, .int (nI (0))), (6, .int (nI (1))), (5, .int (nI (i))), (0, .ref (71)), (1, .ref (0)), (2, .ref (57)), (3, .ref (69)), (4, .ref (70))]) d_LA_law_273 (by decide) rfl ?_
        refine aw_aload_n d_LA_law_275 rfl 5 rfl ?_
        refine aw_callV (K' := k_MO_thrown) (As := []) (rest := []) (b := 57) d_LA_law_276 rfl rfl rfl cs_LA_71 rfl (Nat.le_of_ble_eq_true rfl) (Nat.le_of_ble_eq_true rfl) (by show n1 + 1 + 0 ≤ 601024; omega) (by show n2 + 6 + 0 ≤ 7293034; omega) (d' := 0) (w' := 0) (by decide) (by decide) ?_
        show AW _ _ _ _ _ _ _ [(0, .ref (57))] _ _ _ _ _
        refine aw_aload_n d_MO_thrown_0 rfl 0 rfl ?_
        refine aw_get (ic := 57) (ci := 6) (k := 0) d_MO_thrown_1 rfl rfl (by decide) rfl mw_775 rfl ?_
        refine aw_eqi (nI (1)) (sI_hit _ _ _ _) ?_
        refine aw_iret d_MO_thrown_4 rfl (by decide) (by decide) (ab_go1 ?_)
        refine aw_iload d_LA_law_279 1 rfl ?_
        refine aw_icmp_eqN (tgt := 286) d_LA_law_281 (by decide) (by omega) (by omega) (fun c1 => ?_) (fun c1 => ?_)
        · skip
          refine aw_iload d_LA_law_286 1 rfl ?_
          refine aw_if_neN (tgt := 303) d_LA_law_288 (by decide) (by omega) (fun c2 => ?_) (fun c2 => ?_)
          · skip
            refine aw_goto (tgt := 957) d_LA_law_303 (by decide) ?_
            refine aw_pick [2, 3, 4, 5, 6, 7] rfl ?_
            exact hK D T S R _ ⟨hI.1, CI_thr ci, RI_thr ri⟩
          · skip
            exact absurd c2 (by decide)
        · skip
          exfalso; omega
      · skip
        refine ab_af1 ?_
        refine aw_i2l d_LA_smooth_9 ?_
        refine aw_lastN d_LA_smooth_10 rfl (by decide) (by omega) ?_
        refine aw_goto (tgt := 18) d_LA_smooth_11 (by decide) ?_
        refine aw_iconst (v := nI 0) d_LA_smooth_18 (by decide) ?_
        refine aw_iret d_LA_smooth_19 rfl (by decide) (by decide) (ab_go1 ?_)
        refine aw_istore (lv' := [(6, .int (nI (0))), (5, .int (nI (i))), (0, .ref (71)), (1, .ref (0)), (2, .ref (57)), (3, .ref (69)), (4, .ref (70))]) d_LA_law_250 (by decide) rfl ?_
        refine aw_aload_n d_LA_law_252 rfl 4 rfl ?_
        refine aw_aload_n d_LA_law_253 rfl 2 rfl ?_
        refine aw_iload d_LA_law_254 1 rfl ?_
        refine aw_iconst (v := nI 1) d_LA_law_256 (by decide) ?_
        refine aw_iaddN d_LA_law_257 ?_
        refine aw_sld d_LA_law_258 (pk_in (i + 1) L (by omega)) ?_
        refine aw_eqi (nI (1)) (by rw [nI_clamp (by omega), hx]) ?_
        refine aw_aload_n d_LA_law_259 rfl 2 rfl ?_
        refine aw_iload d_LA_law_260 1 rfl ?_
        refine aw_iconst (v := nI 2) d_LA_law_262 (by decide) ?_
        refine aw_iaddN d_LA_law_263 ?_
        refine aw_sld d_LA_law_264 (pk_in (i + 2) L (by omega)) ?_
        refine aw_eqi (xs (i + 2)) (by rw [nI_clamp (by omega)]) ?_
        refine aw_i2d d_LA_law_265 ?_
        refine aw_ldc2d (v := 4593671619917905920) d_LA_law_266 mw_977 ?_
        refine aw_dmul d_LA_law_269 (f_n64 (f_mul_n (fF_i _) fF_8th)) ?_
        refine aw_eqd (e8 (xs (i + 2))) rfl ?_
        refine aw_callV (K' := k_MO_smooth) (As := [.int (nI (1)), .double (e8 (xs (i + 2)))]) (rest := []) (b := 57) d_LA_law_270 rfl rfl rfl cs_LA_83 rfl (Nat.le_of_ble_eq_true rfl) (Nat.le_of_ble_eq_true rfl) (by show n1 + 1 + 0 ≤ 601024; omega) (by show n2 + 6 + 0 ≤ 7293034; omega) (d' := 1) (w' := 22) (by decide) (by decide) ?_
        show AW _ _ _ _ _ _ _ [(0, .ref (57)), (1, .int (nI (1))), (2, .double (e8 (xs (i + 2))))] _ _ _ _ _
        have r1 : RI D T S R (ab_sJ (smC 1 (e8 (xs (i + 2))) M) (69) (0) (Int32.toInt64 (nI (S.1)))) := RI_J (RI_frR ri (smC_ok ci).2)
        refine R_smooth1 r1.2.2.1 hs1 fm (fun h => absurd ⟨hO1, hO2⟩ h) (fun _ _ => ?_)
        refine ab_go1 ?_
        refine aw_istore (lv' := [(7, .int (nI (S.1))), (6, .int (nI (0))), (5, .int (nI (i))), (0, .ref (71)), (1, .ref (0)), (2, .ref (57)), (3, .ref (69)), (4, .ref (70))]) d_LA_law_273 (by decide) rfl ?_
        refine aw_aload_n d_LA_law_275 rfl 5 rfl ?_
        refine aw_callV (K' := k_MO_thrown) (As := []) (rest := []) (b := 57) d_LA_law_276 rfl rfl rfl cs_LA_71 rfl (Nat.le_of_ble_eq_true rfl) (Nat.le_of_ble_eq_true rfl) (by show n1 + 1 + 0 ≤ 601024; omega) (by show n2 + 6 + 0 ≤ 7293034; omega) (d' := 0) (w' := 0) (by decide) (by decide) ?_
        show AW _ _ _ _ _ _ _ [(0, .ref (57))] _ _ _ _ _
        refine aw_aload_n d_MO_thrown_0 rfl 0 rfl ?_
        refine aw_get (ic := 57) (ci := 6) (k := 0) d_MO_thrown_1 rfl rfl (by decide) rfl mw_775 rfl ?_
        refine aw_eqi (nI (0)) (smR_ok r1).2.2 ?_
        refine aw_iret d_MO_thrown_4 rfl (by decide) (by decide) (ab_go1 ?_)
        refine aw_iload d_LA_law_279 1 rfl ?_
        refine aw_icmp_eqN (tgt := 286) d_LA_law_281 (by decide) (by omega) (by omega) (fun c3 => ?_) (fun c3 => ?_)
        · skip
          refine aw_iload d_LA_law_286 1 rfl ?_
          refine aw_if_neN (tgt := 303) d_LA_law_288 (by decide) (by omega) (fun c4 => ?_) (fun c4 => ?_)
          · skip
            exact absurd c4 (by decide)
          · skip
            refine aw_aload_n d_LA_law_291 rfl 6 rfl ?_
            refine aw_iconst (v := nI 0) d_LA_law_292 (by decide) ?_
            refine aw_laldN d_LA_law_293 rfl (by decide) (by omega) ?_
            refine aw_eql (Int32.toInt64 (nI (S.1))) (((smR_ok r1).2.1 69 0 (by omega)).2.2.trans (sJ_hit _ _ _ _)) ?_
            refine aw_iload d_LA_law_294 0 rfl ?_
            refine aw_i2l d_LA_law_296 ?_
            refine aw_lcmp d_LA_law_297 ?_
            refine aw_eqi (nI (0)) (lg_self _) ?_
            refine aw_if_eqN (tgt := 303) d_LA_law_298 (by decide) (by omega) (fun c5 => ?_) (fun c5 => ?_)
            · skip
              refine aw_goto (tgt := 957) d_LA_law_303 (by decide) ?_
              refine aw_pick [2, 3, 4, 5, 6, 7] rfl ?_
              exact hK D T (1, e8 (xs (i + 2))) R _ ⟨⟨wd, wq, e8_ws (by omega) hO1 (by first | (rw [if_pos rfl]; exact hO2) | (rw [if_neg (by omega)]; exact hO2)), wr⟩, CI_frC (CI_J (smC_ok ci).1) (smR_ok r1).2.1, (smR_ok r1).1⟩
            · skip
              exact absurd c5 (by decide)
        · skip
          exfalso; omega
set_option maxRecDepth 8000 in
theorem LC_token {l : Launch} {b L : Nat} {xs : Nat → Int32} {M : ab_M} {Q : ab_O → ab_M → Prop} {n1 n2 : Nat} (hl : l.stackTraces = false) {D : Dg} {T : Qg} {S : Sg} {R : Rg} (hI : INV D T S R M) {i : Nat} (hi : i + 4 ≤ L) (hL : L ≤ 2048) (hn1 : n1 + 1 ≤ 601024) (hn2 : n2 + 6 ≤ 7293034) (hK : ∀ (D : Dg) (T : Qg) (S : Sg) (R : Rg) (M' : ab_M), INV D T S R M' → AW sys l (ab_Zs9 sys 71 b L xs) k_LA_law 9 207 957 [(5, .int (nI (i))), (0, .ref (71)), (1, .ref (0)), (2, .ref (57)), (3, .ref (69)), (4, .ref (70))] [] M' (n1 + 1) (n2 + 6) Q) : AW sys l (ab_Zs9 sys 71 b L xs) k_LA_law 9 207 306 [(5, .int (nI (i))), (0, .ref (71)), (1, .ref (0)), (2, .ref (57)), (3, .ref (69)), (4, .ref (70))] [] M n1 n2 Q := by
  obtain ⟨⟨wd, wq, ws, wr⟩, ci, ri⟩ := id hI
  obtain ⟨dc, qc, sc, rc⟩ := id ci
  obtain ⟨dr, qr, sr, rr⟩ := id ri
  have fw := e8_f (xs (i + 3))
  by_cases hb : ¬ (nmP (xs (i + 1)).toInt (xs (i + 2)).toInt ∧ wtP (xs (i + 1)).toInt (fz (e8 (xs (i + 3)))))
  · skip
    refine aw_aload_n d_LA_law_306 rfl 2 rfl ?_
    refine aw_aload_n d_LA_law_307 rfl 1 rfl ?_
    refine aw_iload d_LA_law_308 0 rfl ?_
    refine aw_iconst (v := nI 1) d_LA_law_310 (by decide) ?_
    refine aw_iaddN d_LA_law_311 ?_
    refine aw_sld d_LA_law_312 (pk_in (i + 1) L (by omega)) ?_
    refine aw_eqi (xs (i + 1)) (by rw [nI_clamp (by omega)]) ?_
    refine aw_aload_n d_LA_law_313 rfl 1 rfl ?_
    refine aw_iload d_LA_law_314 0 rfl ?_
    refine aw_iconst (v := nI 2) d_LA_law_316 (by decide) ?_
    refine aw_iaddN d_LA_law_317 ?_
    refine aw_sld d_LA_law_318 (pk_in (i + 2) L (by omega)) ?_
    refine aw_eqi (xs (i + 2)) (by rw [nI_clamp (by omega)]) ?_
    refine aw_aload_n d_LA_law_319 rfl 1 rfl ?_
    refine aw_iload d_LA_law_320 0 rfl ?_
    refine aw_iconst (v := nI 3) d_LA_law_322 (by decide) ?_
    refine aw_iaddN d_LA_law_323 ?_
    refine aw_sld d_LA_law_324 (pk_in (i + 3) L (by omega)) ?_
    refine aw_eqi (xs (i + 3)) (by rw [nI_clamp (by omega)]) ?_
    refine aw_i2d d_LA_law_325 ?_
    refine aw_ldc2d (v := 4593671619917905920) d_LA_law_326 mw_977 ?_
    refine aw_dmul d_LA_law_329 (f_n64 (f_mul_n (fF_i _) fF_8th)) ?_
    refine aw_eqd (e8 (xs (i + 3))) rfl ?_
    refine aw_aload_n d_LA_law_330 rfl 4 rfl ?_
    refine aw_callSW (K' := k_LA_token) (As := [.ref (0), .int (xs (i + 1)), .int (xs (i + 2)), .double (e8 (xs (i + 3))), .ref (69)]) (rest := []) d_LA_law_331 rfl (by decide) cs_LA_84 rfl (Nat.le_of_ble_eq_true rfl) (Nat.le_of_ble_eq_true rfl) (by show n1 + 1 ≤ 601024; omega) (by show n2 + 6 ≤ 7293034; omega) (d' := 7) (w' := 114) (by decide) (by decide) ?_
    show AW _ _ _ _ _ _ _ [(0, .ref (0)), (1, .int (xs (i + 1))), (2, .int (xs (i + 2))), (3, .double (e8 (xs (i + 3)))), (5, .ref (69))] _ _ _ _ _
    refine aw_aload d_LA_token_0 4 rfl ?_
    refine aw_iconst (v := nI 0) d_LA_token_2 (by decide) ?_
    refine aw_aload_n d_LA_token_3 rfl 0 rfl ?_
    refine aw_iload_n d_LA_token_4 rfl 1 rfl ?_
    refine aw_iload_n d_LA_token_5 rfl 2 rfl ?_
    refine aw_dload_n d_LA_token_6 rfl 3 rfl ?_
    refine aw_callVX (K' := k_BF_token) (As := [.int (xs (i + 1)), .int (xs (i + 2)), .double (e8 (xs (i + 3)))]) (rest := [.int (nI (0)), .ref (69)]) (b := 0) d_LA_token_7 rfl rfl rfl cs_LA_24 rfl (Nat.le_of_ble_eq_true rfl) (Nat.le_of_ble_eq_true rfl) (by decide) (by decide) (d' := 6) (w' := 90) (by decide) (by decide) ?_
    show AW _ _ _ _ _ _ _ [(0, .ref (0)), (1, .int (xs (i + 1))), (2, .int (xs (i + 2))), (3, .double (e8 (xs (i + 3))))] _ _ _ _ _
    refine C_token_bad hl fw hb ?_
    refine ab_afx2 ct_token_IAE (by decide) d_LA_token_15 ?_
    show AW _ _ _ _ _ _ 17 [(0, .ref (0)), (1, .int (xs (i + 1))), (2, .int (xs (i + 2))), (3, .double (e8 (xs (i + 3)))), (5, .ref (69))] _ _ _ _ _
    refine aw_iconst (v := nI 1) d_LA_token_17 (by decide) ?_
    refine aw_iret d_LA_token_18 rfl (by decide) (by decide) (ab_go1 ?_)
    refine aw_istore (lv' := [(6, .int (nI (1))), (5, .int (nI (i))), (0, .ref (71)), (1, .ref (0)), (2, .ref (57)), (3, .ref (69)), (4, .ref (70))]) d_LA_law_334 (by decide) rfl ?_
    refine aw_aload_n d_LA_law_336 rfl 4 rfl ?_
    refine aw_aload_n d_LA_law_337 rfl 2 rfl ?_
    refine aw_iload d_LA_law_338 1 rfl ?_
    refine aw_iconst (v := nI 1) d_LA_law_340 (by decide) ?_
    refine aw_iaddN d_LA_law_341 ?_
    refine aw_sld d_LA_law_342 (pk_in (i + 1) L (by omega)) ?_
    refine aw_eqi (xs (i + 1)) (by rw [nI_clamp (by omega)]) ?_
    refine aw_aload_n d_LA_law_343 rfl 2 rfl ?_
    refine aw_iload d_LA_law_344 1 rfl ?_
    refine aw_iconst (v := nI 2) d_LA_law_346 (by decide) ?_
    refine aw_iaddN d_LA_law_347 ?_
    refine aw_sld d_LA_law_348 (pk_in (i + 2) L (by omega)) ?_
    refine aw_eqi (xs (i + 2)) (by rw [nI_clamp (by omega)]) ?_
    refine aw_aload_n d_LA_law_349 rfl 2 rfl ?_
    refine aw_iload d_LA_law_350 1 rfl ?_
    refine aw_iconst (v := nI 3) d_LA_law_352 (by decide) ?_
    refine aw_iaddN d_LA_law_353 ?_
    refine aw_sld d_LA_law_354 (pk_in (i + 3) L (by omega)) ?_
    refine aw_eqi (xs (i + 3)) (by rw [nI_clamp (by omega)]) ?_
    refine aw_i2d d_LA_law_355 ?_
    refine aw_ldc2d (v := 4593671619917905920) d_LA_law_356 mw_977 ?_
    refine aw_dmul d_LA_law_359 (f_n64 (f_mul_n (fF_i _) fF_8th)) ?_
    refine aw_eqd (e8 (xs (i + 3))) rfl ?_
    refine aw_callV (K' := k_MO_token) (As := [.int (xs (i + 1)), .int (xs (i + 2)), .double (e8 (xs (i + 3)))]) (rest := []) (b := 57) d_LA_law_360 rfl rfl rfl cs_LA_87 rfl (Nat.le_of_ble_eq_true rfl) (Nat.le_of_ble_eq_true rfl) (by show n1 + 1 + 0 ≤ 601024; omega) (by show n2 + 6 + 0 ≤ 7293034; omega) (d' := 2) (w' := 45) (by decide) (by decide) ?_
    show AW _ _ _ _ _ _ _ [(0, .ref (57)), (1, .int (xs (i + 1))), (2, .int (xs (i + 2))), (3, .double (e8 (xs (i + 3))))] _ _ _ _ _
    refine R_token_bad fw hb ?_
    refine ab_go1 ?_
    refine aw_istore (lv' := [(7, .int (nI (0))), (6, .int (nI (1))), (5, .int (nI (i))), (0, .ref (71)), (1, .ref (0)), (2, .ref (57)), (3, .ref (69)), (4, .ref (70))]) d_LA_law_363 (by decide) rfl ?_
    refine aw_aload_n d_LA_law_365 rfl 5 rfl ?_
    refine aw_callV (K' := k_MO_thrown) (As := []) (rest := []) (b := 57) d_LA_law_366 rfl rfl rfl cs_LA_71 rfl (Nat.le_of_ble_eq_true rfl) (Nat.le_of_ble_eq_true rfl) (by show n1 + 1 + 0 ≤ 601024; omega) (by show n2 + 6 + 0 ≤ 7293034; omega) (d' := 0) (w' := 0) (by decide) (by decide) ?_
    show AW _ _ _ _ _ _ _ [(0, .ref (57))] _ _ _ _ _
    refine aw_aload_n d_MO_thrown_0 rfl 0 rfl ?_
    refine aw_get (ic := 57) (ci := 6) (k := 0) d_MO_thrown_1 rfl rfl (by decide) rfl mw_775 rfl ?_
    refine aw_eqi (nI (1)) (sI_hit _ _ _ _) ?_
    refine aw_iret d_MO_thrown_4 rfl (by decide) (by decide) (ab_go1 ?_)
    refine aw_iload d_LA_law_369 1 rfl ?_
    refine aw_icmp_eqN (tgt := 376) d_LA_law_371 (by decide) (by omega) (by omega) (fun c1 => ?_) (fun c1 => ?_)
    · skip
      refine aw_iload d_LA_law_376 1 rfl ?_
      refine aw_if_neN (tgt := 393) d_LA_law_378 (by decide) (by omega) (fun c2 => ?_) (fun c2 => ?_)
      · skip
        refine aw_goto (tgt := 957) d_LA_law_393 (by decide) ?_
        refine aw_pick [2, 3, 4, 5, 6, 7] rfl ?_
        exact hK D T S R _ ⟨hI.1, CI_thr ci, RI_thr ri⟩
      · skip
        exact absurd c2 (by decide)
    · skip
      exfalso; omega
  · skip
    obtain ⟨hN, hW⟩ := Classical.not_not.mp hb
    obtain ⟨k, a, hx, hy, hg⟩ := tok_good hN hW
    rw [hx] at hN hW
    rw [hy] at hN
    refine aw_aload_n d_LA_law_306 rfl 2 rfl ?_
    refine aw_aload_n d_LA_law_307 rfl 1 rfl ?_
    refine aw_iload d_LA_law_308 0 rfl ?_
    refine aw_iconst (v := nI 1) d_LA_law_310 (by decide) ?_
    refine aw_iaddN d_LA_law_311 ?_
    refine aw_sld d_LA_law_312 (pk_in (i + 1) L (by omega)) ?_
    refine aw_eqi (nI (k)) (by rw [nI_clamp (by omega), hx]) ?_
    refine aw_aload_n d_LA_law_313 rfl 1 rfl ?_
    refine aw_iload d_LA_law_314 0 rfl ?_
    refine aw_iconst (v := nI 2) d_LA_law_316 (by decide) ?_
    refine aw_iaddN d_LA_law_317 ?_
    refine aw_sld d_LA_law_318 (pk_in (i + 2) L (by omega)) ?_
    refine aw_eqi (nI (a)) (by rw [nI_clamp (by omega), hy]) ?_
    refine aw_aload_n d_LA_law_319 rfl 1 rfl ?_
    refine aw_iload d_LA_law_320 0 rfl ?_
    refine aw_iconst (v := nI 3) d_LA_law_322 (by decide) ?_
    refine aw_iaddN d_LA_law_323 ?_
    refine aw_sld d_LA_law_324 (pk_in (i + 3) L (by omega)) ?_
    refine aw_eqi (xs (i + 3)) (by rw [nI_clamp (by omega)]) ?_
    refine aw_i2d d_LA_law_325 ?_
    refine aw_ldc2d (v := 4593671619917905920) d_LA_law_326 mw_977 ?_
    refine aw_dmul d_LA_law_329 (f_n64 (f_mul_n (fF_i _) fF_8th)) ?_
    refine aw_eqd (e8 (xs (i + 3))) rfl ?_
    refine aw_aload_n d_LA_law_330 rfl 4 rfl ?_
    refine aw_callSW (K' := k_LA_token) (As := [.ref (0), .int (nI (k)), .int (nI (a)), .double (e8 (xs (i + 3))), .ref (69)]) (rest := []) d_LA_law_331 rfl (by decide) cs_LA_84 rfl (Nat.le_of_ble_eq_true rfl) (Nat.le_of_ble_eq_true rfl) (by show n1 + 1 ≤ 601024; omega) (by show n2 + 6 ≤ 7293034; omega) (d' := 7) (w' := 114) (by decide) (by decide) ?_
    show AW _ _ _ _ _ _ _ [(0, .ref (0)), (1, .int (nI (k))), (2, .int (nI (a))), (3, .double (e8 (xs (i + 3)))), (5, .ref (69))] _ _ _ _ _
    refine aw_aload d_LA_token_0 4 rfl ?_
    refine aw_iconst (v := nI 0) d_LA_token_2 (by decide) ?_
    refine aw_aload_n d_LA_token_3 rfl 0 rfl ?_
    refine aw_iload_n d_LA_token_4 rfl 1 rfl ?_
    refine aw_iload_n d_LA_token_5 rfl 2 rfl ?_
    refine aw_dload_n d_LA_token_6 rfl 3 rfl ?_
    refine aw_callVX (K' := k_BF_token) (As := [.int (nI (k)), .int (nI (a)), .double (e8 (xs (i + 3)))]) (rest := [.int (nI (0)), .ref (69)]) (b := 0) d_LA_token_7 rfl rfl rfl cs_LA_24 rfl (Nat.le_of_ble_eq_true rfl) (Nat.le_of_ble_eq_true rfl) (by decide) (by decide) (d' := 6) (w' := 90) (by decide) (by decide) ?_
    show AW _ _ _ _ _ _ _ [(0, .ref (0)), (1, .int (nI (k))), (2, .int (nI (a))), (3, .double (e8 (xs (i + 3))))] _ _ _ _ _
    refine C_token hl wq qc fw hN hW hg (fun hF => ?_) (fun g1 g2 g3 g4 => ?_) (fun o1 o2 o3 M1 q1 q2 => ?_)
    · skip
      refine ab_afx2 ct_token_ISE (by decide) d_LA_token_19 ?_
      show AW _ _ _ _ _ _ 21 [(0, .ref (0)), (1, .int (nI (k))), (2, .int (nI (a))), (3, .double (e8 (xs (i + 3)))), (5, .ref (69))] _ _ _ _ _
      refine aw_iconst (v := nI 2) d_LA_token_21 (by decide) ?_
      refine aw_iret d_LA_token_22 rfl (by decide) (by decide) (ab_go1 ?_)
      refine aw_istore (lv' := [(6, .int (nI (2))), (5, .int (nI (i))), (0, .ref (71)), (1, .ref (0)), (2, .ref (57)), (3, .ref (69)), (4, .ref (70))]) d_LA_law_334 (by decide) rfl ?_
      refine aw_aload_n d_LA_law_336 rfl 4 rfl ?_
      refine aw_aload_n d_LA_law_337 rfl 2 rfl ?_
      refine aw_iload d_LA_law_338 1 rfl ?_
      refine aw_iconst (v := nI 1) d_LA_law_340 (by decide) ?_
      refine aw_iaddN d_LA_law_341 ?_
      refine aw_sld d_LA_law_342 (pk_in (i + 1) L (by omega)) ?_
      refine aw_eqi (nI (k)) (by rw [nI_clamp (by omega), hx]) ?_
      refine aw_aload_n d_LA_law_343 rfl 2 rfl ?_
      refine aw_iload d_LA_law_344 1 rfl ?_
      refine aw_iconst (v := nI 2) d_LA_law_346 (by decide) ?_
      refine aw_iaddN d_LA_law_347 ?_
      refine aw_sld d_LA_law_348 (pk_in (i + 2) L (by omega)) ?_
      refine aw_eqi (nI (a)) (by rw [nI_clamp (by omega), hy]) ?_
      refine aw_aload_n d_LA_law_349 rfl 2 rfl ?_
      refine aw_iload d_LA_law_350 1 rfl ?_
      refine aw_iconst (v := nI 3) d_LA_law_352 (by decide) ?_
      refine aw_iaddN d_LA_law_353 ?_
      refine aw_sld d_LA_law_354 (pk_in (i + 3) L (by omega)) ?_
      refine aw_eqi (xs (i + 3)) (by rw [nI_clamp (by omega)]) ?_
      refine aw_i2d d_LA_law_355 ?_
      refine aw_ldc2d (v := 4593671619917905920) d_LA_law_356 mw_977 ?_
      refine aw_dmul d_LA_law_359 (f_n64 (f_mul_n (fF_i _) fF_8th)) ?_
      refine aw_eqd (e8 (xs (i + 3))) rfl ?_
      refine aw_callV (K' := k_MO_token) (As := [.int (nI (k)), .int (nI (a)), .double (e8 (xs (i + 3)))]) (rest := []) (b := 57) d_LA_law_360 rfl rfl rfl cs_LA_87 rfl (Nat.le_of_ble_eq_true rfl) (Nat.le_of_ble_eq_true rfl) (by show n1 + 1 + 0 ≤ 601024; omega) (by show n2 + 6 + 0 ≤ 7293034; omega) (d' := 2) (w' := 45) (by decide) (by decide) ?_
      show AW _ _ _ _ _ _ _ [(0, .ref (57)), (1, .int (nI (k))), (2, .int (nI (a))), (3, .double (e8 (xs (i + 3))))] _ _ _ _ _
      refine R_token wq qr fw hN hW hg (fun _ => ?_) (fun h1 h2 => absurd hF (by omega)) (fun h1 h2 => absurd hF (by omega))
      refine ab_go1 ?_
      refine aw_istore (lv' := [(7, .int (nI (0))), (6, .int (nI (2))), (5, .int (nI (i))), (0, .ref (71)), (1, .ref (0)), (2, .ref (57)), (3, .ref (69)), (4, .ref (70))]) d_LA_law_363 (by decide) rfl ?_
      refine aw_aload_n d_LA_law_365 rfl 5 rfl ?_
      refine aw_callV (K' := k_MO_thrown) (As := []) (rest := []) (b := 57) d_LA_law_366 rfl rfl rfl cs_LA_71 rfl (Nat.le_of_ble_eq_true rfl) (Nat.le_of_ble_eq_true rfl) (by show n1 + 1 + 0 ≤ 601024; omega) (by show n2 + 6 + 0 ≤ 7293034; omega) (d' := 0) (w' := 0) (by decide) (by decide) ?_
      show AW _ _ _ _ _ _ _ [(0, .ref (57))] _ _ _ _ _
      refine aw_aload_n d_MO_thrown_0 rfl 0 rfl ?_
      refine aw_get (ic := 57) (ci := 6) (k := 0) d_MO_thrown_1 rfl rfl (by decide) rfl mw_775 rfl ?_
      refine aw_eqi (nI (2)) (sI_hit _ _ _ _) ?_
      refine aw_iret d_MO_thrown_4 rfl (by decide) (by decide) (ab_go1 ?_)
      refine aw_iload d_LA_law_369 1 rfl ?_
      refine aw_icmp_eqN (tgt := 376) d_LA_law_371 (by decide) (by omega) (by omega) (fun c1 => ?_) (fun c1 => ?_)
      · skip
        refine aw_iload d_LA_law_376 1 rfl ?_
        refine aw_if_neN (tgt := 393) d_LA_law_378 (by decide) (by omega) (fun c2 => ?_) (fun c2 => ?_)
        · skip
          refine aw_goto (tgt := 957) d_LA_law_393 (by decide) ?_
          refine aw_pick [2, 3, 4, 5, 6, 7] rfl ?_
          exact hK D T S R _ ⟨hI.1, CI_thr ci, RI_thr ri⟩
        · skip
          exact absurd c2 (by decide)
      · skip
        exfalso; omega
    · skip
      refine ab_afx2 ct_token_UOE (by decide) d_LA_token_23 ?_
      show AW _ _ _ _ _ _ 25 [(0, .ref (0)), (1, .int (nI (k))), (2, .int (nI (a))), (3, .double (e8 (xs (i + 3)))), (5, .ref (69))] _ _ _ _ _
      refine aw_iconst (v := nI 3) d_LA_token_25 (by decide) ?_
      refine aw_iret d_LA_token_26 rfl (by decide) (by decide) (ab_go1 ?_)
      refine aw_istore (lv' := [(6, .int (nI (3))), (5, .int (nI (i))), (0, .ref (71)), (1, .ref (0)), (2, .ref (57)), (3, .ref (69)), (4, .ref (70))]) d_LA_law_334 (by decide) rfl ?_
      refine aw_aload_n d_LA_law_336 rfl 4 rfl ?_
      refine aw_aload_n d_LA_law_337 rfl 2 rfl ?_
      refine aw_iload d_LA_law_338 1 rfl ?_
      refine aw_iconst (v := nI 1) d_LA_law_340 (by decide) ?_
      refine aw_iaddN d_LA_law_341 ?_
      refine aw_sld d_LA_law_342 (pk_in (i + 1) L (by omega)) ?_
      refine aw_eqi (nI (k)) (by rw [nI_clamp (by omega), hx]) ?_
      refine aw_aload_n d_LA_law_343 rfl 2 rfl ?_
      refine aw_iload d_LA_law_344 1 rfl ?_
      refine aw_iconst (v := nI 2) d_LA_law_346 (by decide) ?_
      refine aw_iaddN d_LA_law_347 ?_
      refine aw_sld d_LA_law_348 (pk_in (i + 2) L (by omega)) ?_
      refine aw_eqi (nI (a)) (by rw [nI_clamp (by omega), hy]) ?_
      refine aw_aload_n d_LA_law_349 rfl 2 rfl ?_
      refine aw_iload d_LA_law_350 1 rfl ?_
      refine aw_iconst (v := nI 3) d_LA_law_352 (by decide) ?_
      refine aw_iaddN d_LA_law_353 ?_
      refine aw_sld d_LA_law_354 (pk_in (i + 3) L (by omega)) ?_
      refine aw_eqi (xs (i + 3)) (by rw [nI_clamp (by omega)]) ?_
      refine aw_i2d d_LA_law_355 ?_
      refine aw_ldc2d (v := 4593671619917905920) d_LA_law_356 mw_977 ?_
      refine aw_dmul d_LA_law_359 (f_n64 (f_mul_n (fF_i _) fF_8th)) ?_
      refine aw_eqd (e8 (xs (i + 3))) rfl ?_
      refine aw_callV (K' := k_MO_token) (As := [.int (nI (k)), .int (nI (a)), .double (e8 (xs (i + 3)))]) (rest := []) (b := 57) d_LA_law_360 rfl rfl rfl cs_LA_87 rfl (Nat.le_of_ble_eq_true rfl) (Nat.le_of_ble_eq_true rfl) (by show n1 + 1 + 0 ≤ 601024; omega) (by show n2 + 6 + 0 ≤ 7293034; omega) (d' := 2) (w' := 45) (by decide) (by decide) ?_
      show AW _ _ _ _ _ _ _ [(0, .ref (57)), (1, .int (nI (k))), (2, .int (nI (a))), (3, .double (e8 (xs (i + 3))))] _ _ _ _ _
      refine R_token wq qr fw hN hW hg (fun h => absurd h (by omega)) (fun _ _ _ _ => ?_) (fun h1 h2 h3 => absurd (h3 g3) g4)
      refine ab_go1 ?_
      refine aw_istore (lv' := [(7, .int (nI (0))), (6, .int (nI (3))), (5, .int (nI (i))), (0, .ref (71)), (1, .ref (0)), (2, .ref (57)), (3, .ref (69)), (4, .ref (70))]) d_LA_law_363 (by decide) rfl ?_
      refine aw_aload_n d_LA_law_365 rfl 5 rfl ?_
      refine aw_callV (K' := k_MO_thrown) (As := []) (rest := []) (b := 57) d_LA_law_366 rfl rfl rfl cs_LA_71 rfl (Nat.le_of_ble_eq_true rfl) (Nat.le_of_ble_eq_true rfl) (by show n1 + 1 + 0 ≤ 601024; omega) (by show n2 + 6 + 0 ≤ 7293034; omega) (d' := 0) (w' := 0) (by decide) (by decide) ?_
      show AW _ _ _ _ _ _ _ [(0, .ref (57))] _ _ _ _ _
      refine aw_aload_n d_MO_thrown_0 rfl 0 rfl ?_
      refine aw_get (ic := 57) (ci := 6) (k := 0) d_MO_thrown_1 rfl rfl (by decide) rfl mw_775 rfl ?_
      refine aw_eqi (nI (3)) (sI_hit _ _ _ _) ?_
      refine aw_iret d_MO_thrown_4 rfl (by decide) (by decide) (ab_go1 ?_)
      refine aw_iload d_LA_law_369 1 rfl ?_
      refine aw_icmp_eqN (tgt := 376) d_LA_law_371 (by decide) (by omega) (by omega) (fun c3 => ?_) (fun c3 => ?_)
      · skip
        refine aw_iload d_LA_law_376 1 rfl ?_
        refine aw_if_neN (tgt := 393) d_LA_law_378 (by decide) (by omega) (fun c4 => ?_) (fun c4 => ?_)
        · skip
          refine aw_goto (tgt := 957) d_LA_law_393 (by decide) ?_
          refine aw_pick [2, 3, 4, 5, 6, 7] rfl ?_
          exact hK D T S R _ ⟨hI.1, CI_thr ci, RI_thr ri⟩
        · skip
          exact absurd c4 (by decide)
      · skip
        exfalso; omega
    · skip
      refine ab_af1 ?_
      refine aw_i2l d_LA_token_10 ?_
      refine aw_lastN d_LA_token_11 rfl (by decide) (by omega) ?_
      refine aw_goto (tgt := 27) d_LA_token_12 (by decide) ?_
      refine aw_iconst (v := nI 0) d_LA_token_27 (by decide) ?_
      refine aw_iret d_LA_token_28 rfl (by decide) (by decide) (ab_go1 ?_)
      refine aw_istore (lv' := [(6, .int (nI (0))), (5, .int (nI (i))), (0, .ref (71)), (1, .ref (0)), (2, .ref (57)), (3, .ref (69)), (4, .ref (70))]) d_LA_law_334 (by decide) rfl ?_
      refine aw_aload_n d_LA_law_336 rfl 4 rfl ?_
      refine aw_aload_n d_LA_law_337 rfl 2 rfl ?_
      refine aw_iload d_LA_law_338 1 rfl ?_
      refine aw_iconst (v := nI 1) d_LA_law_340 (by decide) ?_
      refine aw_iaddN d_LA_law_341 ?_
      refine aw_sld d_LA_law_342 (pk_in (i + 1) L (by omega)) ?_
      refine aw_eqi (nI (k)) (by rw [nI_clamp (by omega), hx]) ?_
      refine aw_aload_n d_LA_law_343 rfl 2 rfl ?_
      refine aw_iload d_LA_law_344 1 rfl ?_
      refine aw_iconst (v := nI 2) d_LA_law_346 (by decide) ?_
      refine aw_iaddN d_LA_law_347 ?_
      refine aw_sld d_LA_law_348 (pk_in (i + 2) L (by omega)) ?_
      refine aw_eqi (nI (a)) (by rw [nI_clamp (by omega), hy]) ?_
      refine aw_aload_n d_LA_law_349 rfl 2 rfl ?_
      refine aw_iload d_LA_law_350 1 rfl ?_
      refine aw_iconst (v := nI 3) d_LA_law_352 (by decide) ?_
      refine aw_iaddN d_LA_law_353 ?_
      refine aw_sld d_LA_law_354 (pk_in (i + 3) L (by omega)) ?_
      refine aw_eqi (xs (i + 3)) (by rw [nI_clamp (by omega)]) ?_
      refine aw_i2d d_LA_law_355 ?_
      refine aw_ldc2d (v := 4593671619917905920) d_LA_law_356 mw_977 ?_
      refine aw_dmul d_LA_law_359 (f_n64 (f_mul_n (fF_i _) fF_8th)) ?_
      refine aw_eqd (e8 (xs (i + 3))) rfl ?_
      refine aw_callV (K' := k_MO_token) (As := [.int (nI (k)), .int (nI (a)), .double (e8 (xs (i + 3)))]) (rest := []) (b := 57) d_LA_law_360 rfl rfl rfl cs_LA_87 rfl (Nat.le_of_ble_eq_true rfl) (Nat.le_of_ble_eq_true rfl) (by show n1 + 1 + 0 ≤ 601024; omega) (by show n2 + 6 + 0 ≤ 7293034; omega) (d' := 2) (w' := 45) (by decide) (by decide) ?_
      show AW _ _ _ _ _ _ _ [(0, .ref (57)), (1, .int (nI (k))), (2, .int (nI (a))), (3, .double (e8 (xs (i + 3))))] _ _ _ _ _
      have c1 := tokC_ok ci q1 (fun b i hb => q2 b i hb.1)
      have r1 : RI D T S R (ab_sJ M1 (69) (0) (Int32.toInt64 (nI (qn T + 1)))) := RI_J (RI_frR ri c1.2)
      refine R_token wq r1.2.1 fw hN hW hg (fun h => absurd h (by omega)) (fun h1 h2 h3 h4 => absurd (o3 h3) h4) (fun _ _ _ => ?_)
      refine ab_go1 ?_
      refine aw_istore (lv' := [(7, .int (nI (qn T + 1))), (6, .int (nI (0))), (5, .int (nI (i))), (0, .ref (71)), (1, .ref (0)), (2, .ref (57)), (3, .ref (69)), (4, .ref (70))]) d_LA_law_363 (by decide) rfl ?_
      refine aw_aload_n d_LA_law_365 rfl 5 rfl ?_
      refine aw_callV (K' := k_MO_thrown) (As := []) (rest := []) (b := 57) d_LA_law_366 rfl rfl rfl cs_LA_71 rfl (Nat.le_of_ble_eq_true rfl) (Nat.le_of_ble_eq_true rfl) (by show n1 + 1 + 0 ≤ 601024; omega) (by show n2 + 6 + 0 ≤ 7293034; omega) (d' := 0) (w' := 0) (by decide) (by decide) ?_
      show AW _ _ _ _ _ _ _ [(0, .ref (57))] _ _ _ _ _
      refine aw_aload_n d_MO_thrown_0 rfl 0 rfl ?_
      refine aw_get (ic := 57) (ci := 6) (k := 0) d_MO_thrown_1 rfl rfl (by decide) rfl mw_775 rfl ?_
      refine aw_eqi (nI (0)) (tokR_ok r1).2.2 ?_
      refine aw_iret d_MO_thrown_4 rfl (by decide) (by decide) (ab_go1 ?_)
      refine aw_iload d_LA_law_369 1 rfl ?_
      refine aw_icmp_eqN (tgt := 376) d_LA_law_371 (by decide) (by omega) (by omega) (fun c5 => ?_) (fun c5 => ?_)
      · skip
        refine aw_iload d_LA_law_376 1 rfl ?_
        refine aw_if_neN (tgt := 393) d_LA_law_378 (by decide) (by omega) (fun c6 => ?_) (fun c6 => ?_)
        · skip
          exact absurd c6 (by decide)
        · skip
          refine aw_aload_n d_LA_law_381 rfl 6 rfl ?_
          refine aw_iconst (v := nI 0) d_LA_law_382 (by decide) ?_
          refine aw_laldN d_LA_law_383 rfl (by decide) (by omega) ?_
          refine aw_eql (Int32.toInt64 (nI (qn T + 1))) (((tokR_ok r1).2.1 69 0 (by omega)).2.2.trans (sJ_hit _ _ _ _)) ?_
          refine aw_iload d_LA_law_384 0 rfl ?_
          refine aw_i2l d_LA_law_386 ?_
          refine aw_lcmp d_LA_law_387 ?_
          refine aw_eqi (nI (0)) (lg_self _) ?_
          refine aw_if_eqN (tgt := 393) d_LA_law_388 (by decide) (by omega) (fun c7 => ?_) (fun c7 => ?_)
          · skip
            refine aw_goto (tgt := 957) d_LA_law_393 (by decide) ?_
            refine aw_pick [2, 3, 4, 5, 6, 7] rfl ?_
            exact hK D (addQ T k a (e8 (xs (i + 3)))) S R _ ⟨⟨wd, addQ_wf wq o1 o2 hg o3, ws, wr⟩, CI_frC (CI_J c1.1) (tokR_ok r1).2.1, (tokR_ok r1).1⟩
          · skip
            exact absurd c7 (by decide)
      · skip
        exfalso; omega
set_option maxRecDepth 8000 in
theorem LC_clear {l : Launch} {b L : Nat} {xs : Nat → Int32} {M : ab_M} {Q : ab_O → ab_M → Prop} {n1 n2 : Nat} (hl : l.stackTraces = false) {D : Dg} {T : Qg} {S : Sg} {R : Rg} (hI : INV D T S R M) {i : Nat} (hi : i + 4 ≤ L) (hL : L ≤ 2048) (hn1 : n1 + 1 ≤ 601024) (hn2 : n2 + 6 ≤ 7293034) (hK : ∀ (D : Dg) (T : Qg) (S : Sg) (R : Rg) (M' : ab_M), INV D T S R M' → AW sys l (ab_Zs9 sys 71 b L xs) k_LA_law 9 207 957 [(5, .int (nI (i))), (0, .ref (71)), (1, .ref (0)), (2, .ref (57)), (3, .ref (69)), (4, .ref (70))] [] M' (n1 + 1) (n2 + 6) Q) : AW sys l (ab_Zs9 sys 71 b L xs) k_LA_law 9 207 396 [(5, .int (nI (i))), (0, .ref (71)), (1, .ref (0)), (2, .ref (57)), (3, .ref (69)), (4, .ref (70))] [] M n1 n2 Q := by
  obtain ⟨⟨wd, wq, ws, wr⟩, ci, ri⟩ := id hI
  obtain ⟨dc, qc, sc, rc⟩ := id ci
  obtain ⟨dr, qr, sr, rr⟩ := id ri
  have h24 := wq.1
  refine aw_aload_n d_LA_law_396 rfl 2 rfl ?_
  refine aw_callV (K' := k_BF_clear) (As := []) (rest := []) (b := 0) d_LA_law_397 rfl rfl rfl cs_LA_88 rfl (Nat.le_of_ble_eq_true rfl) (Nat.le_of_ble_eq_true rfl) (by show n1 + 0 ≤ 601024; omega) (by show n2 + 0 ≤ 7293034; omega) (d' := 1) (w' := 20) (by decide) (by decide) ?_
  show AW _ _ _ _ _ _ _ [(0, .ref (0))] _ _ _ _ _
  refine C_clear wq qc ?_
  refine ab_go1 ?_
  refine aw_aload_n d_LA_law_400 rfl 3 rfl ?_
  refine aw_callV (K' := k_MO_clear) (As := []) (rest := [.int (nI (qn T))]) (b := 57) d_LA_law_401 rfl rfl rfl cs_LA_91 rfl (Nat.le_of_ble_eq_true rfl) (Nat.le_of_ble_eq_true rfl) (by show n1 + 0 ≤ 601024; omega) (by show n2 + 0 ≤ 7293034; omega) (d' := 0) (w' := 0) (by decide) (by decide) ?_
  show AW _ _ _ _ _ _ _ [(0, .ref (57))] _ _ _ _ _
  have r1 : RI D T S R (clrC M) := RI_frR ri (clrC_ok ci).2
  refine R_clear wq r1.2.1 ?_
  refine ab_go1 ?_
  refine aw_icmp_eqN (tgt := 957) d_LA_law_404 (by decide) (by omega) (by omega) (fun c1 => ?_) (fun c1 => ?_)
  · skip
    refine aw_widen (k1 := n1 + 1) (k2 := n2 + 6) (by show n1 + 0 + 0 ≤ n1 + 1; omega) (by show n2 + 0 + 0 ≤ n2 + 6; omega) ?_
    exact hK D (noQ T) S R _ ⟨⟨wd, noQ_wf T, ws, wr⟩, CI_frC (clrC_ok ci).1 (clrR_ok r1).2, (clrR_ok r1).1⟩
  · skip
    exact absurd rfl c1
set_option maxRecDepth 8000 in
theorem LC_wanted {l : Launch} {b L : Nat} {xs : Nat → Int32} {M : ab_M} {Q : ab_O → ab_M → Prop} {n1 n2 : Nat} (hl : l.stackTraces = false) {D : Dg} {T : Qg} {S : Sg} {R : Rg} (hI : INV D T S R M) {i : Nat} (hi : i + 4 ≤ L) (hL : L ≤ 2048) (hn1 : n1 + 1 ≤ 601024) (hn2 : n2 + 6 ≤ 7293034) (hK : ∀ (D : Dg) (T : Qg) (S : Sg) (R : Rg) (M' : ab_M), INV D T S R M' → AW sys l (ab_Zs9 sys 71 b L xs) k_LA_law 9 207 957 [(5, .int (nI (i))), (0, .ref (71)), (1, .ref (0)), (2, .ref (57)), (3, .ref (69)), (4, .ref (70))] [] M' (n1 + 1) (n2 + 6) Q) : AW sys l (ab_Zs9 sys 71 b L xs) k_LA_law 9 207 409 [(5, .int (nI (i))), (0, .ref (71)), (1, .ref (0)), (2, .ref (57)), (3, .ref (69)), (4, .ref (70))] [] M n1 n2 Q := by
  obtain ⟨⟨wd, wq, ws, wr⟩, ci, ri⟩ := id hI
  obtain ⟨dc, qc, sc, rc⟩ := id ci
  obtain ⟨dr, qr, sr, rr⟩ := id ri
  have h24 := wq.1
  have hop := op_le (T := T) (qn T) (fun t h => wq.2.1 t h)
  refine aw_aload_n d_LA_law_409 rfl 2 rfl ?_
  refine aw_callV (K' := k_BF_wanted) (As := []) (rest := []) (b := 0) d_LA_law_410 rfl rfl rfl cs_LA_92 rfl (Nat.le_of_ble_eq_true rfl) (Nat.le_of_ble_eq_true rfl) (by show n1 + 0 ≤ 601024; omega) (by show n2 + 0 ≤ 7293034; omega) (d' := 1) (w' := 20) (by decide) (by decide) ?_
  show AW _ _ _ _ _ _ _ [(0, .ref (0))] _ _ _ _ _
  refine C_wanted wq qc ?_
  refine ab_go1 ?_
  refine aw_aload_n d_LA_law_413 rfl 3 rfl ?_
  refine aw_callV (K' := k_MO_wanted) (As := []) (rest := [.int (nI (op T (qn T)))]) (b := 57) d_LA_law_414 rfl rfl rfl cs_LA_95 rfl (Nat.le_of_ble_eq_true rfl) (Nat.le_of_ble_eq_true rfl) (by show n1 + 0 ≤ 601024; omega) (by show n2 + 0 ≤ 7293034; omega) (d' := 2) (w' := 44) (by decide) (by decide) ?_
  show AW _ _ _ _ _ _ _ [(0, .ref (57))] _ _ _ _ _
  refine R_wanted wq qr ?_
  refine ab_go1 ?_
  refine aw_icmp_eqN (tgt := 957) d_LA_law_417 (by decide) (by omega) (by omega) (fun c1 => ?_) (fun c1 => ?_)
  · skip
    refine aw_widen (k1 := n1 + 1) (k2 := n2 + 6) (by show n1 + 0 + 0 ≤ n1 + 1; omega) (by show n2 + 0 + 0 ≤ n2 + 6; omega) ?_
    exact hK D T S R _ ⟨hI.1, CI_thr ci, RI_thr ri⟩
  · skip
    exact absurd rfl c1
