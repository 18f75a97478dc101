/-! BELIEFS of the reference (rows laid by gen/m8.py) -/
def qv (k : Nat) (x : UInt64) : UInt64 := if k = 6 then FP.dsub FP.dconst1 x else x
def lvv (k : Nat) (x : UInt64) : UInt64 := if k = 8 then lgD x else x
def pdK (k : Nat) (b : Nat → UInt64) : Nat → UInt64
  | 0 => FP.dconst1
  | i + 1 => FP.dmul (pdK k b i) (qv k (b i))
def sK (k : Nat) (b w : Nat → UInt64) : Nat → UInt64
  | 0 => FP.dconst0
  | i + 1 => FP.dadd (sK k b w i) (FP.dmul (w i) (lvv k (b i)))
theorem pdK_6 (b : Nat → UInt64) : ∀ i, pdK 6 b i = pdO b i
  | 0 => rfl
  | i + 1 => by show FP.dmul (pdK 6 b i) _ = FP.dmul (pdO b i) _; rw [pdK_6 b i]; rfl
theorem pdK_n {k : Nat} (h : k ≠ 6) (b : Nat → UInt64) : ∀ i, pdK k b i = pdA b i
  | 0 => rfl
  | i + 1 => by show FP.dmul (pdK k b i) (qv k (b i)) = FP.dmul (pdA b i) _; rw [pdK_n h b i]; simp only [qv]; rw [if_neg h]
theorem sK_8 (b w : Nat → UInt64) : ∀ i, sK 8 b w i = sL b w i
  | 0 => rfl
  | i + 1 => by show FP.dadd (sK 8 b w i) (FP.dmul (w i) (lvv 8 (b i))) = FP.dadd (sL b w i) _; rw [sK_8 b w i, show lvv 8 (b i) = lgD (b i) from if_pos rfl]
theorem sK_n {k : Nat} (h : k ≠ 8) (b w : Nat → UInt64) : ∀ i, sK k b w i = sB b w i
  | 0 => rfl
  | i + 1 => by show FP.dadd (sK k b w i) (FP.dmul (w i) (lvv k (b i))) = FP.dadd (sB b w i) _; rw [sK_n h b w i]; simp only [lvv]; rw [if_neg h]
theorem pdK_01 {k n : Nat} {b : Nat → UInt64} (hb : bOk b n) {i : Nat} (hi : i ≤ n) : fF (pdK k b i) := by
  by_cases h : k = 6
  · subst h; rw [pdK_6]; exact (pdO_01 hb i hi).1
  · rw [pdK_n h]; exact (pdA_01 hb i hi).1
theorem sK_f {k n : Nat} {b w : Nat → UInt64} (hb : bOk b n) (hw : wOk w n) {i : Nat} (hi : i ≤ n) (h4 : i ≤ 4) : fF (sK k b w i) := by
  by_cases h : k = 8
  · subst h; rw [sK_8]; exact (sL_ok hb hw i hi h4).1
  · rw [sK_n h]; exact (sB_ok hb hw i hi h4).1
theorem qv_f {k : Nat} {x : UInt64} (h : f01 x) : fF (qv k x) := by
  simp only [qv]; split
  · exact (f01_sub h).1
  · exact h.1
theorem wl_f {k : Nat} {x w : UInt64} (h : f01 x) (hw : wgood w) : fF (lvv k x) ∧ fF (FP.dmul w (lvv k x)) := by
  simp only [lvv]; split
  · exact ⟨(lg_bd h).1, (wl_ok (lg_bd h) hw).1⟩
  · exact ⟨h.1, (wb_ok h hw).1⟩

set_option maxRecDepth 4000 in
theorem B_plain_loop {l : Launch} {M : ab_M} {Q : ab_O → ab_M → Prop} {D : Dg} {T : Qg} {S : Sg} (wd : wD D) (dr : iDR D M) (wq : wQ T) (qr : iQR T M) (ws : wS S) (sr : iSR S M) (h0 : op T (qn T) = 0) {t d : Nat} (ht : t < qn T) (hk4 : qk T t ≤ 4) (hd : d < dn D) (hl : 0 < dl D d) (hQ : Q (.inl (some (.double (plD S T D t d)))) M) : ∀ (mm : Nat) (e : Nat), 12 - e = mm → (he : e ≤ dn D) → AW sys l ab_Zt k_MO_plain 3 74 16 [(5, .int (nI (e))), (3, .int (nI (ps (fun e => cn (hitB T D t e) (dl D e)) e))), (4, .int (nI (tfT T D t d))), (0, .ref (57)), (1, .int (nI (t))), (2, .int (nI (d)))] [] M 0 0 Q := by
  intro mm
  induction mm using Nat.strongRecOn with
  | ind mm ih =>
    intro e hk he
    have h24 := wq.1
    have h12 := wd.1
    obtain ⟨m1, m2, m3, m4⟩ := mu_ok ws
    have ha := all_pos hd hl
    have hal := all_le wd
    obtain ⟨a1, a2, a3⟩ := cm_ok (T := T) (t := t) wd ha
    obtain ⟨p1, p2, p3⟩ := pt_ok (T := T) (t := t) ws wd ha
    obtain ⟨u1, u2, u3, u4, u5⟩ := nude_ok (T := T) (t := t) ws wd hd hl
    obtain ⟨r1, r2⟩ := rt_ok (T := T) (t := t) wd hl
    have htf := tf_le T D t d
    have hcf := cf_le T D t
    have hll := wd.2.1 d
    have hs1 := ws.1
    refine aw_iload d_MO_plain_16 0 rfl ?_
    refine aw_aload_n d_MO_plain_18 rfl 3 rfl ?_
    refine aw_get (ic := 57) (ci := 6) (k := 4) d_MO_plain_19 rfl rfl (by decide) rfl mw_779 rfl ?_
    refine aw_eqi (nI (dn D)) dr.1 ?_
    refine aw_icmp_geN (tgt := 44) d_MO_plain_22 (by decide) (by omega) (by omega) (fun c1 => ?_) (fun c1 => ?_)
    · skip
      rw [show nI (ps (fun e => cn (hitB T D t e) (dl D e)) e) = nI (cfT T D t) by rw [show e = dn D by omega]; rfl]
      refine aw_iload_n d_MO_plain_44 rfl 1 rfl ?_
      refine aw_if_neN (tgt := 54) d_MO_plain_45 (by decide) (by omega) (fun c2 => ?_) (fun c2 => ?_)
      · skip
        refine aw_iload_n d_MO_plain_54 rfl 1 rfl ?_
        refine aw_i2d d_MO_plain_55 ?_
        refine aw_eqd (cD (cfT T D t)) (by simp only [cD]; rw [if_neg (by omega)]) ?_
        refine aw_dstore (lv' := [(5, .double (cD (cfT T D t))), (3, .int (nI (cfT T D t))), (4, .int (nI (tfT T D t d))), (0, .ref (57)), (1, .int (nI (t))), (2, .int (nI (d)))]) d_MO_plain_56 (by decide) rfl ?_
        refine aw_aload_n d_MO_plain_58 rfl 3 rfl ?_
        refine aw_get (ic := 57) (ci := 6) (k := 10) d_MO_plain_59 rfl rfl (by decide) rfl mw_785 rfl ?_
        refine aw_eqd (S.2) sr.2 ?_
        refine aw_dload d_MO_plain_62 0 rfl ?_
        refine aw_aload_n d_MO_plain_64 rfl 3 rfl ?_
        refine aw_callV (K' := k_MO_all) (As := []) (rest := [.double (cD (cfT T D t)), .double (S.2)]) (b := 57) d_MO_plain_65 rfl rfl rfl cs_MO_118 rfl (Nat.le_of_ble_eq_true rfl) (Nat.le_of_ble_eq_true rfl) (by decide) (by decide) (d' := 0) (w' := 0) (by decide) (by decide) ?_
        show AW _ _ _ _ _ _ _ [(0, .ref (57))] _ _ _ _ _
        refine B_all wd dr ?_
        refine ab_go1 ?_
        refine aw_i2d d_MO_plain_68 ?_
        refine aw_ddiv d_MO_plain_69 (f_n64 (f_div_n a1 (fF_i _) a3)) ?_
        refine aw_eqd (cmD T D t) rfl ?_
        refine aw_dmul d_MO_plain_70 (f_n64 (f_mul_n m1 a2.1)) ?_
        refine aw_eqd (ptD S T D t) rfl ?_
        refine aw_dstore (lv' := [(7, .double (ptD S T D t)), (5, .double (cD (cfT T D t))), (3, .int (nI (cfT T D t))), (4, .int (nI (tfT T D t d))), (0, .ref (57)), (1, .int (nI (t))), (2, .int (nI (d)))]) d_MO_plain_71 (by decide) rfl ?_
        refine aw_aload_n d_MO_plain_73 rfl 4 rfl ?_
        refine aw_get (ic := 57) (ci := 6) (k := 9) d_MO_plain_74 rfl rfl (by decide) rfl mw_784 rfl ?_
        refine aw_eqi (nI (S.1)) sr.1 ?_
        refine aw_if_neN (tgt := 102) d_MO_plain_77 (by decide) (by omega) (fun c3 => ?_) (fun c3 => ?_)
        · skip
          refine aw_dconst1 d_MO_plain_102 ?_
          refine aw_aload_n d_MO_plain_103 rfl 4 rfl ?_
          refine aw_get (ic := 57) (ci := 6) (k := 10) d_MO_plain_104 rfl rfl (by decide) rfl mw_785 rfl ?_
          refine aw_eqd (S.2) sr.2 ?_
          refine aw_dsub d_MO_plain_107 (f_n64 (f_sub_n fF_one m1)) ?_
          refine aw_iload d_MO_plain_108 3 rfl ?_
          refine aw_i2d d_MO_plain_110 ?_
          refine aw_aload_n d_MO_plain_111 rfl 4 rfl ?_
          refine aw_get (ic := 57) (ci := 6) (k := 2) (v := .ref 59) d_MO_plain_112 rfl rfl (by decide) rfl mw_777 rfl ?_
          refine aw_iload_n d_MO_plain_115 rfl 6 rfl ?_
          refine aw_ialdN d_MO_plain_116 rfl (by decide) (by omega) ?_
          refine aw_eqi (nI (dl D d)) (dr.2.1 _ (by omega)) ?_
          refine aw_i2d d_MO_plain_117 ?_
          refine aw_ddiv d_MO_plain_118 (f_n64 (f_div_n (fF_i _) (fF_i _) r2)) ?_
          refine aw_eqd (rtD T D t d) rfl ?_
          refine aw_dmul d_MO_plain_119 (f_n64 (f_mul_n (mx_ok (T := T) (t := t) ws wd hd hl (by omega)).1.1 r1.1)) ?_
          refine aw_dload d_MO_plain_120 0 rfl ?_
          refine aw_dadd d_MO_plain_122 (f_n64 (f_add_n (mx_ok (T := T) (t := t) ws wd hd hl (by omega)).2.1.1 p1)) ?_
          refine aw_dret d_MO_plain_123 rfl (by decide) (by decide) ?_
          exact q_d (by simp only [plD]; rw [if_neg (by omega)]) hQ
        · skip
          refine aw_iload d_MO_plain_80 3 rfl ?_
          refine aw_i2d d_MO_plain_82 ?_
          refine aw_dload d_MO_plain_83 0 rfl ?_
          refine aw_dadd d_MO_plain_85 (f_n64 (f_add_n (fF_i _) p1)) ?_
          refine aw_eqd (nuD S T D t d) rfl ?_
          refine aw_aload_n d_MO_plain_86 rfl 4 rfl ?_
          refine aw_get (ic := 57) (ci := 6) (k := 2) (v := .ref 59) d_MO_plain_87 rfl rfl (by decide) rfl mw_777 rfl ?_
          refine aw_iload_n d_MO_plain_90 rfl 6 rfl ?_
          refine aw_ialdN d_MO_plain_91 rfl (by decide) (by omega) ?_
          refine aw_eqi (nI (dl D d)) (dr.2.1 _ (by omega)) ?_
          refine aw_i2d d_MO_plain_92 ?_
          refine aw_aload_n d_MO_plain_93 rfl 4 rfl ?_
          refine aw_get (ic := 57) (ci := 6) (k := 10) d_MO_plain_94 rfl rfl (by decide) rfl mw_785 rfl ?_
          refine aw_eqd (S.2) sr.2 ?_
          refine aw_dadd d_MO_plain_97 (f_n64 (f_add_n (fF_i _) m1)) ?_
          refine aw_eqd (deD S D d) rfl ?_
          refine aw_ddiv d_MO_plain_98 (f_n64 (f_div_n u1 u2 u4)) ?_
          refine aw_goto (tgt := 123) d_MO_plain_99 (by decide) ?_
          refine aw_dret d_MO_plain_123 rfl (by decide) (by decide) ?_
          exact q_d (by simp only [plD]; rw [if_pos (by omega)]) hQ
      · skip
        refine aw_ldc2d (v := 4602678819172646912) d_MO_plain_48 mw_917 ?_
        refine aw_goto (tgt := 56) d_MO_plain_51 (by decide) ?_
        refine aw_eqd (cD (cfT T D t)) (by simp only [cD]; rw [if_pos (by omega)]) ?_
        refine aw_dstore (lv' := [(5, .double (cD (cfT T D t))), (3, .int (nI (cfT T D t))), (4, .int (nI (tfT T D t d))), (0, .ref (57)), (1, .int (nI (t))), (2, .int (nI (d)))]) d_MO_plain_56 (by decide) rfl ?_
        refine aw_aload_n d_MO_plain_58 rfl 3 rfl ?_
        refine aw_get (ic := 57) (ci := 6) (k := 10) d_MO_plain_59 rfl rfl (by decide) rfl mw_785 rfl ?_
        refine aw_eqd (S.2) sr.2 ?_
        refine aw_dload d_MO_plain_62 0 rfl ?_
        refine aw_aload_n d_MO_plain_64 rfl 3 rfl ?_
        refine aw_callV (K' := k_MO_all) (As := []) (rest := [.double (cD (cfT T D t)), .double (S.2)]) (b := 57) d_MO_plain_65 rfl rfl rfl cs_MO_118 rfl (Nat.le_of_ble_eq_true rfl) (Nat.le_of_ble_eq_true rfl) (by decide) (by decide) (d' := 0) (w' := 0) (by decide) (by decide) ?_
        show AW _ _ _ _ _ _ _ [(0, .ref (57))] _ _ _ _ _
        refine B_all wd dr ?_
        refine ab_go1 ?_
        refine aw_i2d d_MO_plain_68 ?_
        refine aw_ddiv d_MO_plain_69 (f_n64 (f_div_n a1 (fF_i _) a3)) ?_
        refine aw_eqd (cmD T D t) rfl ?_
        refine aw_dmul d_MO_plain_70 (f_n64 (f_mul_n m1 a2.1)) ?_
        refine aw_eqd (ptD S T D t) rfl ?_
        refine aw_dstore (lv' := [(7, .double (ptD S T D t)), (5, .double (cD (cfT T D t))), (3, .int (nI (cfT T D t))), (4, .int (nI (tfT T D t d))), (0, .ref (57)), (1, .int (nI (t))), (2, .int (nI (d)))]) d_MO_plain_71 (by decide) rfl ?_
        refine aw_aload_n d_MO_plain_73 rfl 4 rfl ?_
        refine aw_get (ic := 57) (ci := 6) (k := 9) d_MO_plain_74 rfl rfl (by decide) rfl mw_784 rfl ?_
        refine aw_eqi (nI (S.1)) sr.1 ?_
        refine aw_if_neN (tgt := 102) d_MO_plain_77 (by decide) (by omega) (fun c4 => ?_) (fun c4 => ?_)
        · skip
          refine aw_dconst1 d_MO_plain_102 ?_
          refine aw_aload_n d_MO_plain_103 rfl 4 rfl ?_
          refine aw_get (ic := 57) (ci := 6) (k := 10) d_MO_plain_104 rfl rfl (by decide) rfl mw_785 rfl ?_
          refine aw_eqd (S.2) sr.2 ?_
          refine aw_dsub d_MO_plain_107 (f_n64 (f_sub_n fF_one m1)) ?_
          refine aw_iload d_MO_plain_108 3 rfl ?_
          refine aw_i2d d_MO_plain_110 ?_
          refine aw_aload_n d_MO_plain_111 rfl 4 rfl ?_
          refine aw_get (ic := 57) (ci := 6) (k := 2) (v := .ref 59) d_MO_plain_112 rfl rfl (by decide) rfl mw_777 rfl ?_
          refine aw_iload_n d_MO_plain_115 rfl 6 rfl ?_
          refine aw_ialdN d_MO_plain_116 rfl (by decide) (by omega) ?_
          refine aw_eqi (nI (dl D d)) (dr.2.1 _ (by omega)) ?_
          refine aw_i2d d_MO_plain_117 ?_
          refine aw_ddiv d_MO_plain_118 (f_n64 (f_div_n (fF_i _) (fF_i _) r2)) ?_
          refine aw_eqd (rtD T D t d) rfl ?_
          refine aw_dmul d_MO_plain_119 (f_n64 (f_mul_n (mx_ok (T := T) (t := t) ws wd hd hl (by omega)).1.1 r1.1)) ?_
          refine aw_dload d_MO_plain_120 0 rfl ?_
          refine aw_dadd d_MO_plain_122 (f_n64 (f_add_n (mx_ok (T := T) (t := t) ws wd hd hl (by omega)).2.1.1 p1)) ?_
          refine aw_dret d_MO_plain_123 rfl (by decide) (by decide) ?_
          exact q_d (by simp only [plD]; rw [if_neg (by omega)]) hQ
        · skip
          refine aw_iload d_MO_plain_80 3 rfl ?_
          refine aw_i2d d_MO_plain_82 ?_
          refine aw_dload d_MO_plain_83 0 rfl ?_
          refine aw_dadd d_MO_plain_85 (f_n64 (f_add_n (fF_i _) p1)) ?_
          refine aw_eqd (nuD S T D t d) rfl ?_
          refine aw_aload_n d_MO_plain_86 rfl 4 rfl ?_
          refine aw_get (ic := 57) (ci := 6) (k := 2) (v := .ref 59) d_MO_plain_87 rfl rfl (by decide) rfl mw_777 rfl ?_
          refine aw_iload_n d_MO_plain_90 rfl 6 rfl ?_
          refine aw_ialdN d_MO_plain_91 rfl (by decide) (by omega) ?_
          refine aw_eqi (nI (dl D d)) (dr.2.1 _ (by omega)) ?_
          refine aw_i2d d_MO_plain_92 ?_
          refine aw_aload_n d_MO_plain_93 rfl 4 rfl ?_
          refine aw_get (ic := 57) (ci := 6) (k := 10) d_MO_plain_94 rfl rfl (by decide) rfl mw_785 rfl ?_
          refine aw_eqd (S.2) sr.2 ?_
          refine aw_dadd d_MO_plain_97 (f_n64 (f_add_n (fF_i _) m1)) ?_
          refine aw_eqd (deD S D d) rfl ?_
          refine aw_ddiv d_MO_plain_98 (f_n64 (f_div_n u1 u2 u4)) ?_
          refine aw_goto (tgt := 123) d_MO_plain_99 (by decide) ?_
          refine aw_dret d_MO_plain_123 rfl (by decide) (by decide) ?_
          exact q_d (by simp only [plD]; rw [if_pos (by omega)]) hQ
    · skip
      refine aw_iload_n d_MO_plain_25 rfl 1 rfl ?_
      refine aw_aload_n d_MO_plain_26 rfl 3 rfl ?_
      refine aw_iload_n d_MO_plain_27 rfl 4 rfl ?_
      refine aw_iload d_MO_plain_28 0 rfl ?_
      refine aw_callV (K' := k_MO_hitsOf) (As := [.int (nI (t)), .int (nI (e))]) (rest := [.int (nI (ps (fun e => cn (hitB T D t e) (dl D e)) e))]) (b := 57) d_MO_plain_30 rfl rfl rfl cs_MO_110 rfl (Nat.le_of_ble_eq_true rfl) (Nat.le_of_ble_eq_true rfl) (by decide) (by decide) (d' := 2) (w' := 48) (by decide) (by decide) ?_
      show AW _ _ _ _ _ _ _ [(0, .ref (57)), (1, .int (nI (t))), (2, .int (nI (e)))] _ _ _ _ _
      refine B_hitsOf wd dr wq qr h0 (by omega) (by omega) (by omega) ?_
      refine ab_go1 ?_
      refine aw_callS (K' := k_MO_bits) (As := [.int (nI (bsn (hitB T D t e) (dl D e)))]) (rest := [.int (nI (ps (fun e => cn (hitB T D t e) (dl D e)) e))]) d_MO_plain_33 rfl cs_MO_113 rfl (Nat.le_of_ble_eq_true rfl) (Nat.le_of_ble_eq_true rfl) (by decide) (by decide) (d' := 0) (w' := 0) (by decide) (by decide) ?_
      show AW _ _ _ _ _ _ _ [(0, .int (nI (bsn (hitB T D t e) (dl D e))))] _ _ _ _ _
      refine B_bits (wd.2.1 _) ?_
      refine ab_go1 ?_
      refine aw_iaddN d_MO_plain_36 ?_
      refine aw_istore_n (lv' := [(3, .int (nI ((ps (fun e => cn (hitB T D t e) (dl D e)) e) + (cn (hitB T D t e) (dl D e))))), (5, .int (nI (e))), (4, .int (nI (tfT T D t d))), (0, .ref (57)), (1, .int (nI (t))), (2, .int (nI (d)))]) d_MO_plain_37 rfl (by decide) rfl ?_
      refine aw_iinc (v := (nI (e + 1))) (lv' := [(5, .int (nI (e + 1))), (3, .int (nI ((ps (fun e => cn (hitB T D t e) (dl D e)) e) + (cn (hitB T D t e) (dl D e))))), (4, .int (nI (tfT T D t d))), (0, .ref (57)), (1, .int (nI (t))), (2, .int (nI (d)))]) d_MO_plain_38 (j := 1) rfl (nI_add (e) 1) (by decide) rfl ?_
      refine aw_goto (tgt := 16) d_MO_plain_41 (by decide) ?_
      exact ih _ (by omega) (e + 1) rfl (by omega)
set_option maxRecDepth 4000 in
theorem B_plain {l : Launch} {M : ab_M} {Q : ab_O → ab_M → Prop} {D : Dg} {T : Qg} {S : Sg} (wd : wD D) (dr : iDR D M) (wq : wQ T) (qr : iQR T M) (ws : wS S) (sr : iSR S M) (h0 : op T (qn T) = 0) {t d : Nat} (ht : t < qn T) (hk4 : qk T t ≤ 4) (hd : d < dn D) (hl : 0 < dl D d) (hQ : Q (.inl (some (.double (plD S T D t d)))) M) : AW sys l ab_Zt k_MO_plain 3 74 0 [(0, .ref (57)), (1, .int (nI (t))), (2, .int (nI (d)))] [] M 0 0 Q := by
  have h12 := wd.1
  refine aw_iconst (v := nI 0) d_MO_plain_0 (by decide) ?_
  refine aw_istore_n (lv' := [(3, .int (nI (0))), (0, .ref (57)), (1, .int (nI (t))), (2, .int (nI (d)))]) d_MO_plain_1 rfl (by decide) rfl ?_
  refine aw_aload_n d_MO_plain_2 rfl 1 rfl ?_
  refine aw_iload_n d_MO_plain_3 rfl 2 rfl ?_
  refine aw_iload_n d_MO_plain_4 rfl 3 rfl ?_
  refine aw_callV (K' := k_MO_hitsOf) (As := [.int (nI (t)), .int (nI (d))]) (rest := []) (b := 57) d_MO_plain_5 rfl rfl rfl cs_MO_110 rfl (Nat.le_of_ble_eq_true rfl) (Nat.le_of_ble_eq_true rfl) (by decide) (by decide) (d' := 2) (w' := 48) (by decide) (by decide) ?_
  show AW _ _ _ _ _ _ _ [(0, .ref (57)), (1, .int (nI (t))), (2, .int (nI (d)))] _ _ _ _ _
  refine B_hitsOf wd dr wq qr h0 (by omega) (by omega) (by omega) ?_
  refine ab_go1 ?_
  refine aw_callS (K' := k_MO_bits) (As := [.int (nI (bsn (hitB T D t d) (dl D d)))]) (rest := []) d_MO_plain_8 rfl cs_MO_113 rfl (Nat.le_of_ble_eq_true rfl) (Nat.le_of_ble_eq_true rfl) (by decide) (by decide) (d' := 0) (w' := 0) (by decide) (by decide) ?_
  show AW _ _ _ _ _ _ _ [(0, .int (nI (bsn (hitB T D t d) (dl D d))))] _ _ _ _ _
  refine B_bits (wd.2.1 _) ?_
  refine ab_go1 ?_
  refine aw_istore (lv' := [(4, .int (nI (cn (hitB T D t d) (dl D d)))), (3, .int (nI (0))), (0, .ref (57)), (1, .int (nI (t))), (2, .int (nI (d)))]) d_MO_plain_11 (by decide) rfl ?_
  refine aw_iconst (v := nI 0) d_MO_plain_13 (by decide) ?_
  refine aw_istore (lv' := [(5, .int (nI (0))), (4, .int (nI (cn (hitB T D t d) (dl D d)))), (3, .int (nI (0))), (0, .ref (57)), (1, .int (nI (t))), (2, .int (nI (d)))]) d_MO_plain_14 (by decide) rfl ?_
  refine aw_pick [0, 2, 1, 3, 4, 5] rfl ?_
  exact B_plain_loop wd dr wq qr ws sr h0 ht hk4 hd hl hQ _ 0 rfl (by omega)
set_option maxRecDepth 4000 in
theorem B_joined_loop {l : Launch} {M : ab_M} {Q : ab_O → ab_M → Prop} {T : Qg} {b w : Nat → UInt64} {t n H : Nat} (wq : wQ T) (qr : iQR T M) (ht : t < qn T) (hn0 : 0 < n) (hn4 : n ≤ 4) (h5 : 5 ≤ qk T t) (h11 : 10 < qk T t → 1 < n) (hH : M.1 57 14 = nI H) (hnH : n ≤ H) (hH24 : H ≤ 24) (hb : ∀ j, j < n → M.2.1 64 (H - (j + 1)) = b j) (hw : ∀ j, j < n → M.2.1 65 (H - (j + 1)) = w j) (bo : bOk b n) (wo : wOk w n) (hQ : Q (.inl (some (.double (jnD (qk T t) n b w)))) M) : ∀ (mm : Nat) (j : Nat), 5 - j = mm → (hj : j ≤ n) → AW sys l ab_Zt k_MO_joined 1 25 32 [(12, .int (nI (j + 1))), (10, .double (mxB b j)), (8, .double (pdK (qk T t) b j)), (6, .double (sW w j)), (4, .double (sK (qk T t) b w j)), (3, .int (nI (qk T t))), (0, .ref (57)), (1, .int (nI (t))), (2, .int (nI (n)))] [] M 0 0 Q := by
  intro mm
  induction mm using Nat.strongRecOn with
  | ind mm ih =>
    intro j hk hj
    have h24 := wq.1
    have hk11 := (wq.2.1 t ht).1
    refine aw_iload d_MO_joined_32 0 rfl ?_
    refine aw_iload_n d_MO_joined_34 rfl 8 rfl ?_
    refine aw_icmp_gtN (tgt := 135) d_MO_joined_35 (by decide) (by omega) (by omega) (fun c1 => ?_) (fun c1 => ?_)
    · skip
      refine aw_iload_n d_MO_joined_135 rfl 5 rfl ?_
      by_cases c2 : qk T t = 5
      · refine aw_tabN 176 (by omega) d_MO_joined_136 (by rw [c2]; exact Or.inr ⟨_, by decide, by decide, rfl, by decide⟩) ?_
        refine aw_dload d_MO_joined_176 2 rfl ?_
        refine aw_dret d_MO_joined_178 rfl (by decide) (by decide) ?_
        rw [c2] at hQ; exact q_d (by rw [jn5, show n = j by omega]; exact pdK_n (by omega) b j) hQ
      by_cases c3 : qk T t = 6
      · refine aw_tabN 179 (by omega) d_MO_joined_136 (by rw [c3]; exact Or.inr ⟨_, by decide, by decide, rfl, by decide⟩) ?_
        refine aw_dconst1 d_MO_joined_179 ?_
        refine aw_dload d_MO_joined_180 2 rfl ?_
        refine aw_dsub d_MO_joined_182 (f_n64 (f_sub_n fF_one (pdK_01 bo (by omega)))) ?_
        refine aw_dret d_MO_joined_183 rfl (by decide) (by decide) ?_
        rw [c3] at hQ; exact q_d (by rw [jn6, show n = j by omega, ← pdK_6]; rw [c3]) hQ
      by_cases c4 : qk T t = 7
      · refine aw_tabN 184 (by omega) d_MO_joined_136 (by rw [c4]; exact Or.inr ⟨_, by decide, by decide, rfl, by decide⟩) ?_
        refine aw_dload d_MO_joined_184 1 rfl ?_
        refine aw_dret d_MO_joined_186 rfl (by decide) (by decide) ?_
        rw [c4] at hQ; exact q_d (by rw [jn7, show n = j by omega]) hQ
      by_cases c5 : qk T t = 8
      · refine aw_tabN 187 (by omega) d_MO_joined_136 (by rw [c5]; exact Or.inr ⟨_, by decide, by decide, rfl, by decide⟩) ?_
        refine aw_dload d_MO_joined_187 4 rfl ?_
        refine aw_dload d_MO_joined_189 3 rfl ?_
        refine aw_ddiv d_MO_joined_191 (f_n64 (f_div_n (sK_f bo wo (by omega) (by omega)) (sW_ok wo j (by omega) (by omega)).1 ((sW_ok wo j (by omega) (by omega)).2.2.2 (by omega)))) ?_
        refine aw_eqd (mnD b w n) (by rw [show n = j by omega]; simp only [mnD]; rw [← sK_8, c5]) ?_
        refine aw_callS (K' := k_MO_ex) (As := [.double (mnD b w n)]) (rest := []) d_MO_joined_192 rfl cs_MO_128 rfl (Nat.le_of_ble_eq_true rfl) (Nat.le_of_ble_eq_true rfl) (by decide) (by decide) (d' := 0) (w' := 0) (by decide) (by decide) ?_
        show AW _ _ _ _ _ _ _ [(0, .double (mnD b w n))] _ _ _ _ _
        refine B_ex (mn_ok bo wo hn0 hn4).1 (mn_ok bo wo hn0 hn4).2 ?_
        refine ab_go1 ?_
        refine aw_dret d_MO_joined_195 rfl (by decide) (by decide) ?_
        rw [c5] at hQ; exact q_d (by rw [jn8]) hQ
      by_cases c6 : qk T t = 9
      · refine aw_tabN 196 (by omega) d_MO_joined_136 (by rw [c6]; exact Or.inr ⟨_, by decide, by decide, rfl, by decide⟩) ?_
        refine aw_dload d_MO_joined_196 4 rfl ?_
        refine aw_dload d_MO_joined_198 3 rfl ?_
        refine aw_ddiv d_MO_joined_200 (f_n64 (f_div_n (sK_f bo wo (by omega) (by omega)) (sW_ok wo j (by omega) (by omega)).1 ((sW_ok wo j (by omega) (by omega)).2.2.2 (by omega)))) ?_
        refine aw_eqd (poD b w n) (by rw [show n = j by omega]; simp only [poD]; rw [← sK_n (k := qk T t) (by omega)]) ?_
        refine aw_dret d_MO_joined_201 rfl (by decide) (by decide) ?_
        rw [c6] at hQ; exact q_d (by rfl) hQ
      by_cases c7 : qk T t = 10
      · refine aw_tabN 202 (by omega) d_MO_joined_136 (by rw [c7]; exact Or.inr ⟨_, by decide, by decide, rfl, by decide⟩) ?_
        refine aw_dconst1 d_MO_joined_202 ?_
        refine aw_aload_n d_MO_joined_203 rfl 6 rfl ?_
        refine aw_get (ic := 57) (ci := 6) (k := 11) (v := .ref 64) d_MO_joined_204 rfl rfl (by decide) rfl mw_786 rfl ?_
        refine aw_aload_n d_MO_joined_207 rfl 6 rfl ?_
        refine aw_get (ic := 57) (ci := 6) (k := 14) d_MO_joined_208 rfl rfl (by decide) rfl mw_789 rfl ?_
        refine aw_eqi (nI (H)) hH ?_
        refine aw_iconst (v := nI 1) d_MO_joined_211 (by decide) ?_
        refine aw_isubN d_MO_joined_212 (by omega) ?_
        refine aw_daldN d_MO_joined_213 rfl (by decide) (by omega) ?_
        refine aw_eqd (b 0) (hb 0 (by omega)) ?_
        refine aw_dsub d_MO_joined_214 (f_n64 (f_sub_n fF_one (bo 0 hn0).1)) ?_
        refine aw_dret d_MO_joined_215 rfl (by decide) (by decide) ?_
        rw [c7] at hQ; exact q_d (by rw [jn10]) hQ
      refine aw_tabN 216 (by omega) d_MO_joined_136 (Or.inl ⟨by omega, by decide⟩) ?_
      refine aw_aload_n d_MO_joined_216 rfl 6 rfl ?_
      refine aw_get (ic := 57) (ci := 6) (k := 11) (v := .ref 64) d_MO_joined_217 rfl rfl (by decide) rfl mw_786 rfl ?_
      refine aw_aload_n d_MO_joined_220 rfl 6 rfl ?_
      refine aw_get (ic := 57) (ci := 6) (k := 14) d_MO_joined_221 rfl rfl (by decide) rfl mw_789 rfl ?_
      refine aw_eqi (nI (H)) hH ?_
      refine aw_iconst (v := nI 2) d_MO_joined_224 (by decide) ?_
      refine aw_isubN d_MO_joined_225 (by omega) ?_
      refine aw_daldN d_MO_joined_226 rfl (by decide) (by omega) ?_
      refine aw_eqd (b 1) (hb 1 (by omega)) ?_
      refine aw_dret d_MO_joined_227 rfl (by decide) (by decide) ?_
      rw [show qk T t = 11 by omega] at hQ; exact q_d (by rw [jn11]) hQ
    · skip
      refine aw_aload_n d_MO_joined_38 rfl 6 rfl ?_
      refine aw_get (ic := 57) (ci := 6) (k := 11) (v := .ref 64) d_MO_joined_39 rfl rfl (by decide) rfl mw_786 rfl ?_
      refine aw_aload_n d_MO_joined_42 rfl 6 rfl ?_
      refine aw_get (ic := 57) (ci := 6) (k := 14) d_MO_joined_43 rfl rfl (by decide) rfl mw_789 rfl ?_
      refine aw_eqi (nI (H)) hH ?_
      refine aw_iload d_MO_joined_46 0 rfl ?_
      refine aw_isubN d_MO_joined_48 (by omega) ?_
      refine aw_daldN d_MO_joined_49 rfl (by decide) (by omega) ?_
      refine aw_eqd (b j) (hb j (by omega)) ?_
      refine aw_dstore (lv' := [(13, .double (b j)), (12, .int (nI (j + 1))), (10, .double (mxB b j)), (8, .double (pdK (qk T t) b j)), (6, .double (sW w j)), (4, .double (sK (qk T t) b w j)), (3, .int (nI (qk T t))), (0, .ref (57)), (1, .int (nI (t))), (2, .int (nI (n)))]) d_MO_joined_50 (by decide) rfl ?_
      refine aw_aload_n d_MO_joined_52 rfl 7 rfl ?_
      refine aw_get (ic := 57) (ci := 6) (k := 12) (v := .ref 65) d_MO_joined_53 rfl rfl (by decide) rfl mw_787 rfl ?_
      refine aw_aload_n d_MO_joined_56 rfl 7 rfl ?_
      refine aw_get (ic := 57) (ci := 6) (k := 14) d_MO_joined_57 rfl rfl (by decide) rfl mw_789 rfl ?_
      refine aw_eqi (nI (H)) hH ?_
      refine aw_iload d_MO_joined_60 1 rfl ?_
      refine aw_isubN d_MO_joined_62 (by omega) ?_
      refine aw_daldN d_MO_joined_63 rfl (by decide) (by omega) ?_
      refine aw_eqd (w j) (hw j (by omega)) ?_
      refine aw_dstore (lv' := [(15, .double (w j)), (13, .double (b j)), (12, .int (nI (j + 1))), (10, .double (mxB b j)), (8, .double (pdK (qk T t) b j)), (6, .double (sW w j)), (4, .double (sK (qk T t) b w j)), (3, .int (nI (qk T t))), (0, .ref (57)), (1, .int (nI (t))), (2, .int (nI (n)))]) d_MO_joined_64 (by decide) rfl ?_
      refine aw_dload d_MO_joined_66 4 rfl ?_
      refine aw_iload_n d_MO_joined_68 rfl 7 rfl ?_
      refine aw_bipush (v := nI 6) d_MO_joined_69 (by decide) ?_
      refine aw_icmp_neN (tgt := 81) d_MO_joined_71 (by decide) (by omega) (by omega) (fun c8 => ?_) (fun c8 => ?_)
      · skip
        refine aw_dload d_MO_joined_81 1 rfl ?_
        refine aw_eqd (qv (qk T t) (b j)) (by simp only [qv]; rw [if_neg (by omega)]) ?_
        refine aw_dmul d_MO_joined_83 (f_n64 (f_mul_n (pdK_01 bo (by omega)) (qv_f (bo j (by omega))))) ?_
        refine aw_eqd (pdK (qk T t) b (j + 1)) rfl ?_
        refine aw_dstore (lv' := [(8, .double (pdK (qk T t) b (j + 1))), (15, .double (w j)), (13, .double (b j)), (12, .int (nI (j + 1))), (10, .double (mxB b j)), (6, .double (sW w j)), (4, .double (sK (qk T t) b w j)), (3, .int (nI (qk T t))), (0, .ref (57)), (1, .int (nI (t))), (2, .int (nI (n)))]) d_MO_joined_84 (by decide) rfl ?_
        refine aw_dload d_MO_joined_86 6 rfl ?_
        refine aw_dload d_MO_joined_88 1 rfl ?_
        refine aw_iload_n d_MO_joined_90 rfl 7 rfl ?_
        refine aw_bipush (v := nI 8) d_MO_joined_91 (by decide) ?_
        refine aw_icmp_neN (tgt := 104) d_MO_joined_93 (by decide) (by omega) (by omega) (fun c9 => ?_) (fun c9 => ?_)
        · skip
          refine aw_dload d_MO_joined_104 2 rfl ?_
          refine aw_eqd (lvv (qk T t) (b j)) (by simp only [lvv]; rw [if_neg (by omega)]) ?_
          refine aw_dmul d_MO_joined_106 (f_n64 (f_mul_n (wo j (by omega)).1 (wl_f (bo j (by omega)) (wo j (by omega))).1)) ?_
          refine aw_dadd d_MO_joined_107 (f_n64 (f_add_n (sK_f bo wo (by omega) (by omega)) (wl_f (bo j (by omega)) (wo j (by omega))).2)) ?_
          refine aw_eqd (sK (qk T t) b w (j + 1)) rfl ?_
          refine aw_dstore (lv' := [(4, .double (sK (qk T t) b w (j + 1))), (8, .double (pdK (qk T t) b (j + 1))), (15, .double (w j)), (13, .double (b j)), (12, .int (nI (j + 1))), (10, .double (mxB b j)), (6, .double (sW w j)), (3, .int (nI (qk T t))), (0, .ref (57)), (1, .int (nI (t))), (2, .int (nI (n)))]) d_MO_joined_108 (by decide) rfl ?_
          refine aw_dload d_MO_joined_110 6 rfl ?_
          refine aw_dload d_MO_joined_112 2 rfl ?_
          refine aw_dadd d_MO_joined_114 (f_n64 (f_add_n (sW_ok wo j (by omega) (by omega)).1 (wo j (by omega)).1)) ?_
          refine aw_eqd (sW w (j + 1)) rfl ?_
          refine aw_dstore (lv' := [(6, .double (sW w (j + 1))), (4, .double (sK (qk T t) b w (j + 1))), (8, .double (pdK (qk T t) b (j + 1))), (15, .double (w j)), (13, .double (b j)), (12, .int (nI (j + 1))), (10, .double (mxB b j)), (3, .int (nI (qk T t))), (0, .ref (57)), (1, .int (nI (t))), (2, .int (nI (n)))]) d_MO_joined_115 (by decide) rfl ?_
          refine aw_dload d_MO_joined_117 4 rfl ?_
          refine aw_dload d_MO_joined_119 6 rfl ?_
          refine aw_dcmp d_MO_joined_121 ?_
          refine ad_le (bo j (by omega)).1.n (mxB_01 bo hn0 j (by omega)).1.n d_MO_joined_122 (tgt := 129) (by decide) (fun c10 => ?_) (fun c10 => ?_)
          · skip
            refine aw_iinc (v := (nI ((j + 1) + 1))) (lv' := [(12, .int (nI ((j + 1) + 1))), (6, .double (sW w (j + 1))), (4, .double (sK (qk T t) b w (j + 1))), (8, .double (pdK (qk T t) b (j + 1))), (15, .double (w j)), (13, .double (b j)), (10, .double (mxB b j)), (3, .int (nI (qk T t))), (0, .ref (57)), (1, .int (nI (t))), (2, .int (nI (n)))]) d_MO_joined_129 (j := 5) rfl (nI_add (j + 1) 1) (by decide) rfl ?_
            refine aw_goto (tgt := 32) d_MO_joined_132 (by decide) ?_
            refine aw_pick [0, 6, 3, 1, 2, 7, 8, 9, 10] rfl ?_
            rw [show mxB b j = mxB b (j + 1) by show _ = (if _ then _ else _); rw [if_neg (by omega)]]
            exact ih _ (by omega) (j + 1) rfl (by omega)
          · skip
            refine aw_dload d_MO_joined_125 4 rfl ?_
            refine aw_dstore (lv' := [(10, .double (b j)), (6, .double (sW w (j + 1))), (4, .double (sK (qk T t) b w (j + 1))), (8, .double (pdK (qk T t) b (j + 1))), (15, .double (w j)), (13, .double (b j)), (12, .int (nI (j + 1))), (3, .int (nI (qk T t))), (0, .ref (57)), (1, .int (nI (t))), (2, .int (nI (n)))]) d_MO_joined_127 (by decide) rfl ?_
            refine aw_iinc (v := (nI ((j + 1) + 1))) (lv' := [(12, .int (nI ((j + 1) + 1))), (10, .double (b j)), (6, .double (sW w (j + 1))), (4, .double (sK (qk T t) b w (j + 1))), (8, .double (pdK (qk T t) b (j + 1))), (15, .double (w j)), (13, .double (b j)), (3, .int (nI (qk T t))), (0, .ref (57)), (1, .int (nI (t))), (2, .int (nI (n)))]) d_MO_joined_129 (j := 6) rfl (nI_add (j + 1) 1) (by decide) rfl ?_
            refine aw_goto (tgt := 32) d_MO_joined_132 (by decide) ?_
            refine aw_pick [0, 1, 4, 2, 3, 7, 8, 9, 10] rfl ?_
            rw [show b j = mxB b (j + 1) by show _ = (if _ then _ else _); rw [if_pos (by omega)]]
            exact ih _ (by omega) (j + 1) rfl (by omega)
        · skip
          refine aw_dload d_MO_joined_96 2 rfl ?_
          refine aw_callS (K' := k_MO_lg) (As := [.double (b j)]) (rest := [.double (w j), .double (sK (qk T t) b w j)]) d_MO_joined_98 rfl cs_MO_124 rfl (Nat.le_of_ble_eq_true rfl) (Nat.le_of_ble_eq_true rfl) (by decide) (by decide) (d' := 0) (w' := 0) (by decide) (by decide) ?_
          show AW _ _ _ _ _ _ _ [(0, .double (b j))] _ _ _ _ _
          refine B_lg (bo j (by omega)) ?_
          refine ab_go1 ?_
          refine aw_goto (tgt := 106) d_MO_joined_101 (by decide) ?_
          refine aw_eqd (lvv (qk T t) (b j)) (by simp only [lvv]; rw [if_pos (by omega)]) ?_
          refine aw_dmul d_MO_joined_106 (f_n64 (f_mul_n (wo j (by omega)).1 (wl_f (bo j (by omega)) (wo j (by omega))).1)) ?_
          refine aw_dadd d_MO_joined_107 (f_n64 (f_add_n (sK_f bo wo (by omega) (by omega)) (wl_f (bo j (by omega)) (wo j (by omega))).2)) ?_
          refine aw_eqd (sK (qk T t) b w (j + 1)) rfl ?_
          refine aw_dstore (lv' := [(4, .double (sK (qk T t) b w (j + 1))), (8, .double (pdK (qk T t) b (j + 1))), (15, .double (w j)), (13, .double (b j)), (12, .int (nI (j + 1))), (10, .double (mxB b j)), (6, .double (sW w j)), (3, .int (nI (qk T t))), (0, .ref (57)), (1, .int (nI (t))), (2, .int (nI (n)))]) d_MO_joined_108 (by decide) rfl ?_
          refine aw_dload d_MO_joined_110 6 rfl ?_
          refine aw_dload d_MO_joined_112 2 rfl ?_
          refine aw_dadd d_MO_joined_114 (f_n64 (f_add_n (sW_ok wo j (by omega) (by omega)).1 (wo j (by omega)).1)) ?_
          refine aw_eqd (sW w (j + 1)) rfl ?_
          refine aw_dstore (lv' := [(6, .double (sW w (j + 1))), (4, .double (sK (qk T t) b w (j + 1))), (8, .double (pdK (qk T t) b (j + 1))), (15, .double (w j)), (13, .double (b j)), (12, .int (nI (j + 1))), (10, .double (mxB b j)), (3, .int (nI (qk T t))), (0, .ref (57)), (1, .int (nI (t))), (2, .int (nI (n)))]) d_MO_joined_115 (by decide) rfl ?_
          refine aw_dload d_MO_joined_117 4 rfl ?_
          refine aw_dload d_MO_joined_119 6 rfl ?_
          refine aw_dcmp d_MO_joined_121 ?_
          refine ad_le (bo j (by omega)).1.n (mxB_01 bo hn0 j (by omega)).1.n d_MO_joined_122 (tgt := 129) (by decide) (fun c11 => ?_) (fun c11 => ?_)
          · skip
            refine aw_iinc (v := (nI ((j + 1) + 1))) (lv' := [(12, .int (nI ((j + 1) + 1))), (6, .double (sW w (j + 1))), (4, .double (sK (qk T t) b w (j + 1))), (8, .double (pdK (qk T t) b (j + 1))), (15, .double (w j)), (13, .double (b j)), (10, .double (mxB b j)), (3, .int (nI (qk T t))), (0, .ref (57)), (1, .int (nI (t))), (2, .int (nI (n)))]) d_MO_joined_129 (j := 5) rfl (nI_add (j + 1) 1) (by decide) rfl ?_
            refine aw_goto (tgt := 32) d_MO_joined_132 (by decide) ?_
            refine aw_pick [0, 6, 3, 1, 2, 7, 8, 9, 10] rfl ?_
            rw [show mxB b j = mxB b (j + 1) by show _ = (if _ then _ else _); rw [if_neg (by omega)]]
            exact ih _ (by omega) (j + 1) rfl (by omega)
          · skip
            refine aw_dload d_MO_joined_125 4 rfl ?_
            refine aw_dstore (lv' := [(10, .double (b j)), (6, .double (sW w (j + 1))), (4, .double (sK (qk T t) b w (j + 1))), (8, .double (pdK (qk T t) b (j + 1))), (15, .double (w j)), (13, .double (b j)), (12, .int (nI (j + 1))), (3, .int (nI (qk T t))), (0, .ref (57)), (1, .int (nI (t))), (2, .int (nI (n)))]) d_MO_joined_127 (by decide) rfl ?_
            refine aw_iinc (v := (nI ((j + 1) + 1))) (lv' := [(12, .int (nI ((j + 1) + 1))), (10, .double (b j)), (6, .double (sW w (j + 1))), (4, .double (sK (qk T t) b w (j + 1))), (8, .double (pdK (qk T t) b (j + 1))), (15, .double (w j)), (13, .double (b j)), (3, .int (nI (qk T t))), (0, .ref (57)), (1, .int (nI (t))), (2, .int (nI (n)))]) d_MO_joined_129 (j := 6) rfl (nI_add (j + 1) 1) (by decide) rfl ?_
            refine aw_goto (tgt := 32) d_MO_joined_132 (by decide) ?_
            refine aw_pick [0, 1, 4, 2, 3, 7, 8, 9, 10] rfl ?_
            rw [show b j = mxB b (j + 1) by show _ = (if _ then _ else _); rw [if_pos (by omega)]]
            exact ih _ (by omega) (j + 1) rfl (by omega)
      · skip
        refine aw_dconst1 d_MO_joined_74 ?_
        refine aw_dload d_MO_joined_75 1 rfl ?_
        refine aw_dsub d_MO_joined_77 (f_n64 (f_sub_n fF_one (bo j (by omega)).1)) ?_
        refine aw_goto (tgt := 83) d_MO_joined_78 (by decide) ?_
        refine aw_eqd (qv (qk T t) (b j)) (by simp only [qv]; rw [if_pos (by omega)]) ?_
        refine aw_dmul d_MO_joined_83 (f_n64 (f_mul_n (pdK_01 bo (by omega)) (qv_f (bo j (by omega))))) ?_
        refine aw_eqd (pdK (qk T t) b (j + 1)) rfl ?_
        refine aw_dstore (lv' := [(8, .double (pdK (qk T t) b (j + 1))), (15, .double (w j)), (13, .double (b j)), (12, .int (nI (j + 1))), (10, .double (mxB b j)), (6, .double (sW w j)), (4, .double (sK (qk T t) b w j)), (3, .int (nI (qk T t))), (0, .ref (57)), (1, .int (nI (t))), (2, .int (nI (n)))]) d_MO_joined_84 (by decide) rfl ?_
        refine aw_dload d_MO_joined_86 6 rfl ?_
        refine aw_dload d_MO_joined_88 1 rfl ?_
        refine aw_iload_n d_MO_joined_90 rfl 7 rfl ?_
        refine aw_bipush (v := nI 8) d_MO_joined_91 (by decide) ?_
        refine aw_icmp_neN (tgt := 104) d_MO_joined_93 (by decide) (by omega) (by omega) (fun c12 => ?_) (fun c12 => ?_)
        · skip
          refine aw_dload d_MO_joined_104 2 rfl ?_
          refine aw_eqd (lvv (qk T t) (b j)) (by simp only [lvv]; rw [if_neg (by omega)]) ?_
          refine aw_dmul d_MO_joined_106 (f_n64 (f_mul_n (wo j (by omega)).1 (wl_f (bo j (by omega)) (wo j (by omega))).1)) ?_
          refine aw_dadd d_MO_joined_107 (f_n64 (f_add_n (sK_f bo wo (by omega) (by omega)) (wl_f (bo j (by omega)) (wo j (by omega))).2)) ?_
          refine aw_eqd (sK (qk T t) b w (j + 1)) rfl ?_
          refine aw_dstore (lv' := [(4, .double (sK (qk T t) b w (j + 1))), (8, .double (pdK (qk T t) b (j + 1))), (15, .double (w j)), (13, .double (b j)), (12, .int (nI (j + 1))), (10, .double (mxB b j)), (6, .double (sW w j)), (3, .int (nI (qk T t))), (0, .ref (57)), (1, .int (nI (t))), (2, .int (nI (n)))]) d_MO_joined_108 (by decide) rfl ?_
          refine aw_dload d_MO_joined_110 6 rfl ?_
          refine aw_dload d_MO_joined_112 2 rfl ?_
          refine aw_dadd d_MO_joined_114 (f_n64 (f_add_n (sW_ok wo j (by omega) (by omega)).1 (wo j (by omega)).1)) ?_
          refine aw_eqd (sW w (j + 1)) rfl ?_
          refine aw_dstore (lv' := [(6, .double (sW w (j + 1))), (4, .double (sK (qk T t) b w (j + 1))), (8, .double (pdK (qk T t) b (j + 1))), (15, .double (w j)), (13, .double (b j)), (12, .int (nI (j + 1))), (10, .double (mxB b j)), (3, .int (nI (qk T t))), (0, .ref (57)), (1, .int (nI (t))), (2, .int (nI (n)))]) d_MO_joined_115 (by decide) rfl ?_
          refine aw_dload d_MO_joined_117 4 rfl ?_
          refine aw_dload d_MO_joined_119 6 rfl ?_
          refine aw_dcmp d_MO_joined_121 ?_
          refine ad_le (bo j (by omega)).1.n (mxB_01 bo hn0 j (by omega)).1.n d_MO_joined_122 (tgt := 129) (by decide) (fun c13 => ?_) (fun c13 => ?_)
          · skip
            refine aw_iinc (v := (nI ((j + 1) + 1))) (lv' := [(12, .int (nI ((j + 1) + 1))), (6, .double (sW w (j + 1))), (4, .double (sK (qk T t) b w (j + 1))), (8, .double (pdK (qk T t) b (j + 1))), (15, .double (w j)), (13, .double (b j)), (10, .double (mxB b j)), (3, .int (nI (qk T t))), (0, .ref (57)), (1, .int (nI (t))), (2, .int (nI (n)))]) d_MO_joined_129 (j := 5) rfl (nI_add (j + 1) 1) (by decide) rfl ?_
            refine aw_goto (tgt := 32) d_MO_joined_132 (by decide) ?_
            refine aw_pick [0, 6, 3, 1, 2, 7, 8, 9, 10] rfl ?_
            rw [show mxB b j = mxB b (j + 1) by show _ = (if _ then _ else _); rw [if_neg (by omega)]]
            exact ih _ (by omega) (j + 1) rfl (by omega)
          · skip
            refine aw_dload d_MO_joined_125 4 rfl ?_
            refine aw_dstore (lv' := [(10, .double (b j)), (6, .double (sW w (j + 1))), (4, .double (sK (qk T t) b w (j + 1))), (8, .double (pdK (qk T t) b (j + 1))), (15, .double (w j)), (13, .double (b j)), (12, .int (nI (j + 1))), (3, .int (nI (qk T t))), (0, .ref (57)), (1, .int (nI (t))), (2, .int (nI (n)))]) d_MO_joined_127 (by decide) rfl ?_
            refine aw_iinc (v := (nI ((j + 1) + 1))) (lv' := [(12, .int (nI ((j + 1) + 1))), (10, .double (b j)), (6, .double (sW w (j + 1))), (4, .double (sK (qk T t) b w (j + 1))), (8, .double (pdK (qk T t) b (j + 1))), (15, .double (w j)), (13, .double (b j)), (3, .int (nI (qk T t))), (0, .ref (57)), (1, .int (nI (t))), (2, .int (nI (n)))]) d_MO_joined_129 (j := 6) rfl (nI_add (j + 1) 1) (by decide) rfl ?_
            refine aw_goto (tgt := 32) d_MO_joined_132 (by decide) ?_
            refine aw_pick [0, 1, 4, 2, 3, 7, 8, 9, 10] rfl ?_
            rw [show b j = mxB b (j + 1) by show _ = (if _ then _ else _); rw [if_pos (by omega)]]
            exact ih _ (by omega) (j + 1) rfl (by omega)
        · skip
          refine aw_dload d_MO_joined_96 2 rfl ?_
          refine aw_callS (K' := k_MO_lg) (As := [.double (b j)]) (rest := [.double (w j), .double (sK (qk T t) b w j)]) d_MO_joined_98 rfl cs_MO_124 rfl (Nat.le_of_ble_eq_true rfl) (Nat.le_of_ble_eq_true rfl) (by decide) (by decide) (d' := 0) (w' := 0) (by decide) (by decide) ?_
          show AW _ _ _ _ _ _ _ [(0, .double (b j))] _ _ _ _ _
          refine B_lg (bo j (by omega)) ?_
          refine ab_go1 ?_
          refine aw_goto (tgt := 106) d_MO_joined_101 (by decide) ?_
          refine aw_eqd (lvv (qk T t) (b j)) (by simp only [lvv]; rw [if_pos (by omega)]) ?_
          refine aw_dmul d_MO_joined_106 (f_n64 (f_mul_n (wo j (by omega)).1 (wl_f (bo j (by omega)) (wo j (by omega))).1)) ?_
          refine aw_dadd d_MO_joined_107 (f_n64 (f_add_n (sK_f bo wo (by omega) (by omega)) (wl_f (bo j (by omega)) (wo j (by omega))).2)) ?_
          refine aw_eqd (sK (qk T t) b w (j + 1)) rfl ?_
          refine aw_dstore (lv' := [(4, .double (sK (qk T t) b w (j + 1))), (8, .double (pdK (qk T t) b (j + 1))), (15, .double (w j)), (13, .double (b j)), (12, .int (nI (j + 1))), (10, .double (mxB b j)), (6, .double (sW w j)), (3, .int (nI (qk T t))), (0, .ref (57)), (1, .int (nI (t))), (2, .int (nI (n)))]) d_MO_joined_108 (by decide) rfl ?_
          refine aw_dload d_MO_joined_110 6 rfl ?_
          refine aw_dload d_MO_joined_112 2 rfl ?_
          refine aw_dadd d_MO_joined_114 (f_n64 (f_add_n (sW_ok wo j (by omega) (by omega)).1 (wo j (by omega)).1)) ?_
          refine aw_eqd (sW w (j + 1)) rfl ?_
          refine aw_dstore (lv' := [(6, .double (sW w (j + 1))), (4, .double (sK (qk T t) b w (j + 1))), (8, .double (pdK (qk T t) b (j + 1))), (15, .double (w j)), (13, .double (b j)), (12, .int (nI (j + 1))), (10, .double (mxB b j)), (3, .int (nI (qk T t))), (0, .ref (57)), (1, .int (nI (t))), (2, .int (nI (n)))]) d_MO_joined_115 (by decide) rfl ?_
          refine aw_dload d_MO_joined_117 4 rfl ?_
          refine aw_dload d_MO_joined_119 6 rfl ?_
          refine aw_dcmp d_MO_joined_121 ?_
          refine ad_le (bo j (by omega)).1.n (mxB_01 bo hn0 j (by omega)).1.n d_MO_joined_122 (tgt := 129) (by decide) (fun c14 => ?_) (fun c14 => ?_)
          · skip
            refine aw_iinc (v := (nI ((j + 1) + 1))) (lv' := [(12, .int (nI ((j + 1) + 1))), (6, .double (sW w (j + 1))), (4, .double (sK (qk T t) b w (j + 1))), (8, .double (pdK (qk T t) b (j + 1))), (15, .double (w j)), (13, .double (b j)), (10, .double (mxB b j)), (3, .int (nI (qk T t))), (0, .ref (57)), (1, .int (nI (t))), (2, .int (nI (n)))]) d_MO_joined_129 (j := 5) rfl (nI_add (j + 1) 1) (by decide) rfl ?_
            refine aw_goto (tgt := 32) d_MO_joined_132 (by decide) ?_
            refine aw_pick [0, 6, 3, 1, 2, 7, 8, 9, 10] rfl ?_
            rw [show mxB b j = mxB b (j + 1) by show _ = (if _ then _ else _); rw [if_neg (by omega)]]
            exact ih _ (by omega) (j + 1) rfl (by omega)
          · skip
            refine aw_dload d_MO_joined_125 4 rfl ?_
            refine aw_dstore (lv' := [(10, .double (b j)), (6, .double (sW w (j + 1))), (4, .double (sK (qk T t) b w (j + 1))), (8, .double (pdK (qk T t) b (j + 1))), (15, .double (w j)), (13, .double (b j)), (12, .int (nI (j + 1))), (3, .int (nI (qk T t))), (0, .ref (57)), (1, .int (nI (t))), (2, .int (nI (n)))]) d_MO_joined_127 (by decide) rfl ?_
            refine aw_iinc (v := (nI ((j + 1) + 1))) (lv' := [(12, .int (nI ((j + 1) + 1))), (10, .double (b j)), (6, .double (sW w (j + 1))), (4, .double (sK (qk T t) b w (j + 1))), (8, .double (pdK (qk T t) b (j + 1))), (15, .double (w j)), (13, .double (b j)), (3, .int (nI (qk T t))), (0, .ref (57)), (1, .int (nI (t))), (2, .int (nI (n)))]) d_MO_joined_129 (j := 6) rfl (nI_add (j + 1) 1) (by decide) rfl ?_
            refine aw_goto (tgt := 32) d_MO_joined_132 (by decide) ?_
            refine aw_pick [0, 1, 4, 2, 3, 7, 8, 9, 10] rfl ?_
            rw [show b j = mxB b (j + 1) by show _ = (if _ then _ else _); rw [if_pos (by omega)]]
            exact ih _ (by omega) (j + 1) rfl (by omega)
set_option maxRecDepth 4000 in
theorem B_joined {l : Launch} {M : ab_M} {Q : ab_O → ab_M → Prop} {T : Qg} {b w : Nat → UInt64} {t n H : Nat} (wq : wQ T) (qr : iQR T M) (ht : t < qn T) (hn0 : 0 < n) (hn4 : n ≤ 4) (h5 : 5 ≤ qk T t) (h11 : 10 < qk T t → 1 < n) (hH : M.1 57 14 = nI H) (hnH : n ≤ H) (hH24 : H ≤ 24) (hb : ∀ j, j < n → M.2.1 64 (H - (j + 1)) = b j) (hw : ∀ j, j < n → M.2.1 65 (H - (j + 1)) = w j) (bo : bOk b n) (wo : wOk w n) (hQ : Q (.inl (some (.double (jnD (qk T t) n b w)))) M) : AW sys l ab_Zt k_MO_joined 1 25 0 [(0, .ref (57)), (1, .int (nI (t))), (2, .int (nI (n)))] [] M 0 0 Q := by
  have h24 := wq.1
  refine aw_aload_n d_MO_joined_0 rfl 0 rfl ?_
  refine aw_get (ic := 57) (ci := 6) (k := 5) (v := .ref 61) d_MO_joined_1 rfl rfl (by decide) rfl mw_780 rfl ?_
  refine aw_iload_n d_MO_joined_4 rfl 1 rfl ?_
  refine aw_ialdN d_MO_joined_5 rfl (by decide) (by omega) ?_
  refine aw_eqi (nI (qk T t)) (qr.2.1 _ (by omega)) ?_
  refine aw_istore_n (lv' := [(3, .int (nI (qk T t))), (0, .ref (57)), (1, .int (nI (t))), (2, .int (nI (n)))]) d_MO_joined_6 rfl (by decide) rfl ?_
  refine aw_dconst0 d_MO_joined_7 ?_
  refine aw_dstore (lv' := [(4, .double (FP.dconst0)), (3, .int (nI (qk T t))), (0, .ref (57)), (1, .int (nI (t))), (2, .int (nI (n)))]) d_MO_joined_8 (by decide) rfl ?_
  refine aw_dconst0 d_MO_joined_10 ?_
  refine aw_dstore (lv' := [(6, .double (FP.dconst0)), (4, .double (FP.dconst0)), (3, .int (nI (qk T t))), (0, .ref (57)), (1, .int (nI (t))), (2, .int (nI (n)))]) d_MO_joined_11 (by decide) rfl ?_
  refine aw_dconst1 d_MO_joined_13 ?_
  refine aw_dstore (lv' := [(8, .double (FP.dconst1)), (6, .double (FP.dconst0)), (4, .double (FP.dconst0)), (3, .int (nI (qk T t))), (0, .ref (57)), (1, .int (nI (t))), (2, .int (nI (n)))]) d_MO_joined_14 (by decide) rfl ?_
  refine aw_aload_n d_MO_joined_16 rfl 4 rfl ?_
  refine aw_get (ic := 57) (ci := 6) (k := 11) (v := .ref 64) d_MO_joined_17 rfl rfl (by decide) rfl mw_786 rfl ?_
  refine aw_aload_n d_MO_joined_20 rfl 4 rfl ?_
  refine aw_get (ic := 57) (ci := 6) (k := 14) d_MO_joined_21 rfl rfl (by decide) rfl mw_789 rfl ?_
  refine aw_eqi (nI (H)) hH ?_
  refine aw_iconst (v := nI 1) d_MO_joined_24 (by decide) ?_
  refine aw_isubN d_MO_joined_25 (by omega) ?_
  refine aw_daldN d_MO_joined_26 rfl (by decide) (by omega) ?_
  refine aw_eqd (b 0) (hb 0 (by omega)) ?_
  refine aw_dstore (lv' := [(10, .double (b 0)), (8, .double (FP.dconst1)), (6, .double (FP.dconst0)), (4, .double (FP.dconst0)), (3, .int (nI (qk T t))), (0, .ref (57)), (1, .int (nI (t))), (2, .int (nI (n)))]) d_MO_joined_27 (by decide) rfl ?_
  refine aw_iconst (v := nI 1) d_MO_joined_29 (by decide) ?_
  refine aw_istore (lv' := [(12, .int (nI (1))), (10, .double (b 0)), (8, .double (FP.dconst1)), (6, .double (FP.dconst0)), (4, .double (FP.dconst0)), (3, .int (nI (qk T t))), (0, .ref (57)), (1, .int (nI (t))), (2, .int (nI (n)))]) d_MO_joined_30 (by decide) rfl ?_
  exact B_joined_loop wq qr ht hn0 hn4 h5 h11 hH hnH hH24 hb hw bo wo hQ _ 0 rfl (by omega)
