/-! BELIEFS of the class (rows laid by gen/m6.py) -/
theorem sI_hit (M : ab_M) (a i : Nat) (x : Int32) : (ab_sI M a i x).1 a i = x := ab_u_hit _ _ _ _
theorem sI_ne {M : ab_M} {a i b j : Nat} {x : Int32} (h : b ≠ a ∨ j ≠ i) : (ab_sI M a i x).1 b j = M.1 b j := by
  show ab_u M.1 a i x b j = _
  simp only [ab_u]
  split
  · split
    · omega
    · rfl
  · rfl
theorem sD_hit (M : ab_M) (a i : Nat) (x : UInt64) : (ab_sD M a i x).2.1 a i = x := ab_u_hit _ _ _ _
theorem sD_ne {M : ab_M} {a i b j : Nat} {x : UInt64} (h : b ≠ a ∨ j ≠ i) : (ab_sD M a i x).2.1 b j = M.2.1 b j := by
  show ab_u M.2.1 a i x b j = _
  simp only [ab_u]
  split
  · split
    · omega
    · rfl
  · rfl
def bP (T : Qg) (B : Nat → UInt64) (t : Nat) : Nat → UInt64 := fun i => B (pa T t i)
def wP (T : Qg) (t : Nat) : Nat → UInt64 := fun i => qw T (pa T t i)
theorem bP_ok {T : Qg} {B : Nat → UInt64} {t : Nat} (wq : wQ T) (h0 : op T (qn T) = 0) (ht : t < qn T) (hB : ∀ i, t < i → i < qn T → f01 (B i)) : bOk (bP T B t) (prt T t) := fun i hi => hB _ (pa_lt wq h0 ht hi).1 (pa_lt wq h0 ht hi).2
theorem wP_ok {T : Qg} {t : Nat} (wq : wQ T) (h0 : op T (qn T) = 0) (ht : t < qn T) : wOk (wP T t) (prt T t) := fun i hi => (wq.2.1 _ (pa_lt wq h0 ht hi).2).2.2.2.2.2

set_option maxRecDepth 4000 in
theorem A_ratio {l : Launch} {M : ab_M} {Q : ab_O → ab_M → Prop} {x y : UInt64} (hx : fF x) (hy : fF y) (hp : 0 < fz y) (hQ : Q (.inl (some (.double (FP.ddiv x y)))) M) : AW sys l ab_Zt k_BF_ratio 0 0 0 [(0, .double (x)), (2, .double (y))] [] M 0 0 Q := by
  refine aw_dload_n d_BF_ratio_0 rfl 1 rfl ?_
  refine aw_dconst0 d_BF_ratio_1 ?_
  refine aw_dcmp d_BF_ratio_2 ?_
  refine ad_le hy.n fF_zero.n d_BF_ratio_3 (tgt := 12) (by decide) (fun c1 => ?_) (fun c1 => ?_)
  · skip
    exfalso; rw [fz_zero] at c1; omega
  · skip
    refine aw_dload_n d_BF_ratio_6 rfl 0 rfl ?_
    refine aw_dload_n d_BF_ratio_7 rfl 1 rfl ?_
    refine aw_ddiv d_BF_ratio_8 (f_n64 (f_div_n hx hy hp)) ?_
    refine aw_goto (tgt := 13) d_BF_ratio_9 (by decide) ?_
    refine aw_dret d_BF_ratio_13 rfl (by decide) (by decide) ?_
    exact hQ
set_option maxRecDepth 4000 in
theorem A_smoothed {l : Launch} {M : ab_M} {Q : ab_O → ab_M → Prop} {D : Dg} {T : Qg} {S : Sg} (wd : wD D) (dc : iDC D M) (ws : wS S) (sc : iSC S M) {t d : Nat} (hd : d < dn D) (hl : 0 < dl D d) (hQ : Q (.inl (some (.double (plD S T D t d)))) M) : AW sys l ab_Zt k_NE_smoothed 1 23 0 [(0, .ref (22)), (1, .int (nI (tfT T D t d))), (2, .int (nI (cfT T D t))), (3, .int (nI (dl D d)))] [] M 0 0 Q := by
  obtain ⟨m1, m2, m3, m4⟩ := mu_ok ws
  have ha := all_pos hd hl
  have hal := all_le wd
  obtain ⟨a1, a2, a3⟩ := cm_ok (T := T) (t := t) wd ha
  obtain ⟨p1, p2, p3⟩ := pt_ok (T := T) (t := t) ws wd ha
  obtain ⟨u1, u2, u3, u4, u5⟩ := nude_ok (T := T) (t := t) ws wd hd hl
  obtain ⟨r1, r2⟩ := rt_ok (T := T) (t := t) wd hl
  have htf := tf_le T D t d
  have hcf := cf_le T D t
  have hll := wd.2.1 d
  have hs1 := ws.1
  refine aw_iload_n d_NE_smoothed_0 rfl 2 rfl ?_
  refine aw_if_neN (tgt := 10) d_NE_smoothed_1 (by decide) (by omega) (fun c1 => ?_) (fun c1 => ?_)
  · skip
    refine aw_iload_n d_NE_smoothed_10 rfl 2 rfl ?_
    refine aw_i2d d_NE_smoothed_11 ?_
    refine aw_eqd (cD (cfT T D t)) (by simp only [cD]; rw [if_neg (by omega)]) ?_
    refine aw_dstore (lv' := [(4, .double (cD (cfT T D t))), (0, .ref (22)), (1, .int (nI (tfT T D t d))), (2, .int (nI (cfT T D t))), (3, .int (nI (dl D d)))]) d_NE_smoothed_12 (by decide) rfl ?_
    refine aw_dload d_NE_smoothed_14 0 rfl ?_
    refine aw_aload_n d_NE_smoothed_16 rfl 1 rfl ?_
    refine aw_get (ic := 22) (ci := 3) (k := 0) d_NE_smoothed_17 rfl rfl (by decide) rfl mw_123 rfl ?_
    refine aw_callV (K' := k_TX_all) (As := []) (rest := [.double (cD (cfT T D t))]) (b := 1) d_NE_smoothed_20 rfl rfl rfl cs_NE_146 rfl (Nat.le_of_ble_eq_true rfl) (Nat.le_of_ble_eq_true rfl) (by decide) (by decide) (d' := 0) (w' := 0) (by decide) (by decide) ?_
    show AW _ _ _ _ _ _ _ [(0, .ref (1))] _ _ _ _ _
    refine aw_aload_n d_TX_all_0 rfl 0 rfl ?_
    refine aw_get (ic := 1) (ci := 1) (k := 4) d_TX_all_1 rfl rfl (by decide) rfl mw_73 rfl ?_
    refine aw_eqi (nI (dall D)) dc.2.1 ?_
    refine aw_iret d_TX_all_4 rfl (by decide) (by decide) (ab_go1 ?_)
    refine aw_i2d d_NE_smoothed_23 ?_
    refine aw_callSN (K' := k_BF_ratio) (As := [.double (cD (cfT T D t)), .double (FP.i2d (nI (dall D)))]) (rest := []) d_NE_smoothed_24 wn_NE_128 cs_NE_128 rfl (Nat.le_of_ble_eq_true rfl) (Nat.le_of_ble_eq_true rfl) (by decide) (by decide) (d' := 0) (w' := 0) (by decide) (by decide) ?_
    show AW _ _ _ _ _ _ _ [(0, .double (cD (cfT T D t))), (2, .double (FP.i2d (nI (dall D))))] _ _ _ _ _
    refine A_ratio a1 (fF_i _) a3 ?_
    show ab_ret _ (.inl (some (.double (cmD T D t)))) _
    refine ab_go1 ?_
    refine aw_dstore (lv' := [(6, .double (cmD T D t)), (4, .double (cD (cfT T D t))), (0, .ref (22)), (1, .int (nI (tfT T D t d))), (2, .int (nI (cfT T D t))), (3, .int (nI (dl D d)))]) d_NE_smoothed_27 (by decide) rfl ?_
    refine aw_aload_n d_NE_smoothed_29 rfl 2 rfl ?_
    refine aw_get (ic := 22) (ci := 3) (k := 5) d_NE_smoothed_30 rfl rfl (by decide) rfl mw_128 rfl ?_
    refine aw_eqi (nI (S.1)) sc.1 ?_
    refine aw_if_neN (tgt := 57) d_NE_smoothed_33 (by decide) (by omega) (fun c2 => ?_) (fun c2 => ?_)
    · skip
      refine aw_dconst1 d_NE_smoothed_57 ?_
      refine aw_aload_n d_NE_smoothed_58 rfl 2 rfl ?_
      refine aw_get (ic := 22) (ci := 3) (k := 6) d_NE_smoothed_59 rfl rfl (by decide) rfl mw_129 rfl ?_
      refine aw_eqd (S.2) sc.2 ?_
      refine aw_dsub d_NE_smoothed_62 (f_n64 (f_sub_n fF_one m1)) ?_
      refine aw_iload_n d_NE_smoothed_63 rfl 3 rfl ?_
      refine aw_i2d d_NE_smoothed_64 ?_
      refine aw_iload_n d_NE_smoothed_65 rfl 5 rfl ?_
      refine aw_i2d d_NE_smoothed_66 ?_
      refine aw_callSN (K' := k_BF_ratio) (As := [.double (FP.i2d (nI (tfT T D t d))), .double (FP.i2d (nI (dl D d)))]) (rest := [.double (FP.dsub (FP.dconst1) (S.2))]) d_NE_smoothed_67 wn_NE_128 cs_NE_128 rfl (Nat.le_of_ble_eq_true rfl) (Nat.le_of_ble_eq_true rfl) (by decide) (by decide) (d' := 0) (w' := 0) (by decide) (by decide) ?_
      show AW _ _ _ _ _ _ _ [(0, .double (FP.i2d (nI (tfT T D t d)))), (2, .double (FP.i2d (nI (dl D d))))] _ _ _ _ _
      refine A_ratio (fF_i _) (fF_i _) r2 ?_
      show ab_ret _ (.inl (some (.double (rtD T D t d)))) _
      refine ab_go1 ?_
      refine aw_dmul d_NE_smoothed_70 (f_n64 (f_mul_n (mx_ok (T := T) (t := t) ws wd hd hl (by omega)).1.1 r1.1)) ?_
      refine aw_aload_n d_NE_smoothed_71 rfl 2 rfl ?_
      refine aw_get (ic := 22) (ci := 3) (k := 6) d_NE_smoothed_72 rfl rfl (by decide) rfl mw_129 rfl ?_
      refine aw_eqd (S.2) sc.2 ?_
      refine aw_dload d_NE_smoothed_75 0 rfl ?_
      refine aw_dmul d_NE_smoothed_77 (f_n64 (f_mul_n m1 a2.1)) ?_
      refine aw_eqd (ptD S T D t) rfl ?_
      refine aw_dadd d_NE_smoothed_78 (f_n64 (f_add_n (mx_ok (T := T) (t := t) ws wd hd hl (by omega)).2.1.1 p1)) ?_
      refine aw_dret d_NE_smoothed_79 rfl (by decide) (by decide) ?_
      exact q_d (by simp only [plD]; rw [if_neg (by omega)]) hQ
    · skip
      refine aw_iload_n d_NE_smoothed_36 rfl 3 rfl ?_
      refine aw_i2d d_NE_smoothed_37 ?_
      refine aw_aload_n d_NE_smoothed_38 rfl 2 rfl ?_
      refine aw_get (ic := 22) (ci := 3) (k := 6) d_NE_smoothed_39 rfl rfl (by decide) rfl mw_129 rfl ?_
      refine aw_eqd (S.2) sc.2 ?_
      refine aw_dload d_NE_smoothed_42 0 rfl ?_
      refine aw_dmul d_NE_smoothed_44 (f_n64 (f_mul_n m1 a2.1)) ?_
      refine aw_eqd (ptD S T D t) rfl ?_
      refine aw_dadd d_NE_smoothed_45 (f_n64 (f_add_n (fF_i _) p1)) ?_
      refine aw_eqd (nuD S T D t d) rfl ?_
      refine aw_iload_n d_NE_smoothed_46 rfl 5 rfl ?_
      refine aw_i2d d_NE_smoothed_47 ?_
      refine aw_aload_n d_NE_smoothed_48 rfl 2 rfl ?_
      refine aw_get (ic := 22) (ci := 3) (k := 6) d_NE_smoothed_49 rfl rfl (by decide) rfl mw_129 rfl ?_
      refine aw_eqd (S.2) sc.2 ?_
      refine aw_dadd d_NE_smoothed_52 (f_n64 (f_add_n (fF_i _) m1)) ?_
      refine aw_eqd (deD S D d) rfl ?_
      refine aw_callSN (K' := k_BF_ratio) (As := [.double (nuD S T D t d), .double (deD S D d)]) (rest := []) d_NE_smoothed_53 wn_NE_128 cs_NE_128 rfl (Nat.le_of_ble_eq_true rfl) (Nat.le_of_ble_eq_true rfl) (by decide) (by decide) (d' := 0) (w' := 0) (by decide) (by decide) ?_
      show AW _ _ _ _ _ _ _ [(0, .double (nuD S T D t d)), (2, .double (deD S D d))] _ _ _ _ _
      refine A_ratio u1 u2 u4 ?_
      refine ab_go1 ?_
      refine aw_dret d_NE_smoothed_56 rfl (by decide) (by decide) ?_
      exact q_d (by simp only [plD]; rw [if_pos (by omega)]) hQ
  · skip
    refine aw_ldc2d (v := 4602678819172646912) d_NE_smoothed_4 mw_591 ?_
    refine aw_goto (tgt := 12) d_NE_smoothed_7 (by decide) ?_
    refine aw_eqd (cD (cfT T D t)) (by simp only [cD]; rw [if_pos (by omega)]) ?_
    refine aw_dstore (lv' := [(4, .double (cD (cfT T D t))), (0, .ref (22)), (1, .int (nI (tfT T D t d))), (2, .int (nI (cfT T D t))), (3, .int (nI (dl D d)))]) d_NE_smoothed_12 (by decide) rfl ?_
    refine aw_dload d_NE_smoothed_14 0 rfl ?_
    refine aw_aload_n d_NE_smoothed_16 rfl 1 rfl ?_
    refine aw_get (ic := 22) (ci := 3) (k := 0) d_NE_smoothed_17 rfl rfl (by decide) rfl mw_123 rfl ?_
    refine aw_callV (K' := k_TX_all) (As := []) (rest := [.double (cD (cfT T D t))]) (b := 1) d_NE_smoothed_20 rfl rfl rfl cs_NE_146 rfl (Nat.le_of_ble_eq_true rfl) (Nat.le_of_ble_eq_true rfl) (by decide) (by decide) (d' := 0) (w' := 0) (by decide) (by decide) ?_
    show AW _ _ _ _ _ _ _ [(0, .ref (1))] _ _ _ _ _
    refine aw_aload_n d_TX_all_0 rfl 0 rfl ?_
    refine aw_get (ic := 1) (ci := 1) (k := 4) d_TX_all_1 rfl rfl (by decide) rfl mw_73 rfl ?_
    refine aw_eqi (nI (dall D)) dc.2.1 ?_
    refine aw_iret d_TX_all_4 rfl (by decide) (by decide) (ab_go1 ?_)
    refine aw_i2d d_NE_smoothed_23 ?_
    refine aw_callSN (K' := k_BF_ratio) (As := [.double (cD (cfT T D t)), .double (FP.i2d (nI (dall D)))]) (rest := []) d_NE_smoothed_24 wn_NE_128 cs_NE_128 rfl (Nat.le_of_ble_eq_true rfl) (Nat.le_of_ble_eq_true rfl) (by decide) (by decide) (d' := 0) (w' := 0) (by decide) (by decide) ?_
    show AW _ _ _ _ _ _ _ [(0, .double (cD (cfT T D t))), (2, .double (FP.i2d (nI (dall D))))] _ _ _ _ _
    refine A_ratio a1 (fF_i _) a3 ?_
    show ab_ret _ (.inl (some (.double (cmD T D t)))) _
    refine ab_go1 ?_
    refine aw_dstore (lv' := [(6, .double (cmD T D t)), (4, .double (cD (cfT T D t))), (0, .ref (22)), (1, .int (nI (tfT T D t d))), (2, .int (nI (cfT T D t))), (3, .int (nI (dl D d)))]) d_NE_smoothed_27 (by decide) rfl ?_
    refine aw_aload_n d_NE_smoothed_29 rfl 2 rfl ?_
    refine aw_get (ic := 22) (ci := 3) (k := 5) d_NE_smoothed_30 rfl rfl (by decide) rfl mw_128 rfl ?_
    refine aw_eqi (nI (S.1)) sc.1 ?_
    refine aw_if_neN (tgt := 57) d_NE_smoothed_33 (by decide) (by omega) (fun c3 => ?_) (fun c3 => ?_)
    · skip
      refine aw_dconst1 d_NE_smoothed_57 ?_
      refine aw_aload_n d_NE_smoothed_58 rfl 2 rfl ?_
      refine aw_get (ic := 22) (ci := 3) (k := 6) d_NE_smoothed_59 rfl rfl (by decide) rfl mw_129 rfl ?_
      refine aw_eqd (S.2) sc.2 ?_
      refine aw_dsub d_NE_smoothed_62 (f_n64 (f_sub_n fF_one m1)) ?_
      refine aw_iload_n d_NE_smoothed_63 rfl 3 rfl ?_
      refine aw_i2d d_NE_smoothed_64 ?_
      refine aw_iload_n d_NE_smoothed_65 rfl 5 rfl ?_
      refine aw_i2d d_NE_smoothed_66 ?_
      refine aw_callSN (K' := k_BF_ratio) (As := [.double (FP.i2d (nI (tfT T D t d))), .double (FP.i2d (nI (dl D d)))]) (rest := [.double (FP.dsub (FP.dconst1) (S.2))]) d_NE_smoothed_67 wn_NE_128 cs_NE_128 rfl (Nat.le_of_ble_eq_true rfl) (Nat.le_of_ble_eq_true rfl) (by decide) (by decide) (d' := 0) (w' := 0) (by decide) (by decide) ?_
      show AW _ _ _ _ _ _ _ [(0, .double (FP.i2d (nI (tfT T D t d)))), (2, .double (FP.i2d (nI (dl D d))))] _ _ _ _ _
      refine A_ratio (fF_i _) (fF_i _) r2 ?_
      show ab_ret _ (.inl (some (.double (rtD T D t d)))) _
      refine ab_go1 ?_
      refine aw_dmul d_NE_smoothed_70 (f_n64 (f_mul_n (mx_ok (T := T) (t := t) ws wd hd hl (by omega)).1.1 r1.1)) ?_
      refine aw_aload_n d_NE_smoothed_71 rfl 2 rfl ?_
      refine aw_get (ic := 22) (ci := 3) (k := 6) d_NE_smoothed_72 rfl rfl (by decide) rfl mw_129 rfl ?_
      refine aw_eqd (S.2) sc.2 ?_
      refine aw_dload d_NE_smoothed_75 0 rfl ?_
      refine aw_dmul d_NE_smoothed_77 (f_n64 (f_mul_n m1 a2.1)) ?_
      refine aw_eqd (ptD S T D t) rfl ?_
      refine aw_dadd d_NE_smoothed_78 (f_n64 (f_add_n (mx_ok (T := T) (t := t) ws wd hd hl (by omega)).2.1.1 p1)) ?_
      refine aw_dret d_NE_smoothed_79 rfl (by decide) (by decide) ?_
      exact q_d (by simp only [plD]; rw [if_neg (by omega)]) hQ
    · skip
      refine aw_iload_n d_NE_smoothed_36 rfl 3 rfl ?_
      refine aw_i2d d_NE_smoothed_37 ?_
      refine aw_aload_n d_NE_smoothed_38 rfl 2 rfl ?_
      refine aw_get (ic := 22) (ci := 3) (k := 6) d_NE_smoothed_39 rfl rfl (by decide) rfl mw_129 rfl ?_
      refine aw_eqd (S.2) sc.2 ?_
      refine aw_dload d_NE_smoothed_42 0 rfl ?_
      refine aw_dmul d_NE_smoothed_44 (f_n64 (f_mul_n m1 a2.1)) ?_
      refine aw_eqd (ptD S T D t) rfl ?_
      refine aw_dadd d_NE_smoothed_45 (f_n64 (f_add_n (fF_i _) p1)) ?_
      refine aw_eqd (nuD S T D t d) rfl ?_
      refine aw_iload_n d_NE_smoothed_46 rfl 5 rfl ?_
      refine aw_i2d d_NE_smoothed_47 ?_
      refine aw_aload_n d_NE_smoothed_48 rfl 2 rfl ?_
      refine aw_get (ic := 22) (ci := 3) (k := 6) d_NE_smoothed_49 rfl rfl (by decide) rfl mw_129 rfl ?_
      refine aw_eqd (S.2) sc.2 ?_
      refine aw_dadd d_NE_smoothed_52 (f_n64 (f_add_n (fF_i _) m1)) ?_
      refine aw_eqd (deD S D d) rfl ?_
      refine aw_callSN (K' := k_BF_ratio) (As := [.double (nuD S T D t d), .double (deD S D d)]) (rest := []) d_NE_smoothed_53 wn_NE_128 cs_NE_128 rfl (Nat.le_of_ble_eq_true rfl) (Nat.le_of_ble_eq_true rfl) (by decide) (by decide) (d' := 0) (w' := 0) (by decide) (by decide) ?_
      show AW _ _ _ _ _ _ _ [(0, .double (nuD S T D t d)), (2, .double (deD S D d))] _ _ _ _ _
      refine A_ratio u1 u2 u4 ?_
      refine ab_go1 ?_
      refine aw_dret d_NE_smoothed_56 rfl (by decide) (by decide) ?_
      exact q_d (by simp only [plD]; rw [if_pos (by omega)]) hQ
set_option maxRecDepth 4000 in
theorem A_beliefOf {l : Launch} {M : ab_M} {Q : ab_O → ab_M → Prop} {T : Qg} (wq : wQ T) (qc : iQC T M) (h0 : op T (qn T) = 0) {t : Nat} {B : Nat → UInt64} (ht : t < qn T) (hB : ∀ i, t < i → i < qn T → M.2.1 49 i = B i ∧ f01 (B i)) {i : Nat} (hi : i < prt T t) (hQ : Q (.inl (some (.double (bP T B t i)))) M) : AW sys l ab_Zt k_NE_beliefOf 1 24 0 [(0, .ref (22)), (1, .int (nI (t))), (2, .int (nI (i)))] [] M 0 0 Q := by
  have h24 := wq.1
  have hp4 := prt_le (wq.2.1 t ht)
  have hpa := pa_lt wq h0 ht hi
  refine aw_aload_n d_NE_beliefOf_0 rfl 0 rfl ?_
  refine aw_get (ic := 22) (ci := 3) (k := 4) d_NE_beliefOf_1 rfl rfl (by decide) rfl mw_127 rfl ?_
  refine aw_aload_n d_NE_beliefOf_4 rfl 0 rfl ?_
  refine aw_get (ic := 22) (ci := 3) (k := 1) d_NE_beliefOf_5 rfl rfl (by decide) rfl mw_124 rfl ?_
  refine aw_iload_n d_NE_beliefOf_8 rfl 1 rfl ?_
  refine aw_iload_n d_NE_beliefOf_9 rfl 2 rfl ?_
  refine aw_callV (K' := k_QU_partAt) (As := [.int (nI (t)), .int (nI (i))]) (rest := [.ref (49)]) (b := 17) d_NE_beliefOf_10 rfl rfl rfl cs_NE_149 rfl (Nat.le_of_ble_eq_true rfl) (Nat.le_of_ble_eq_true rfl) (by decide) (by decide) (d' := 0) (w' := 0) (by decide) (by decide) ?_
  show AW _ _ _ _ _ _ _ [(0, .ref (17)), (1, .int (nI (t))), (2, .int (nI (i)))] _ _ _ _ _
  refine A_QU_partAt wq qc h0 ht (by omega) ?_
  refine ab_go1 ?_
  refine aw_daldN d_NE_beliefOf_13 rfl (by decide) (by omega) ?_
  refine aw_eqd (B (pa T t i)) (hB _ hpa.1 hpa.2).1 ?_
  refine aw_dret d_NE_beliefOf_14 rfl (by decide) (by decide) ?_
  exact hQ
set_option maxRecDepth 4000 in
theorem A_weightOf {l : Launch} {M : ab_M} {Q : ab_O → ab_M → Prop} {T : Qg} (wq : wQ T) (qc : iQC T M) (h0 : op T (qn T) = 0) {t : Nat} (ht : t < qn T) {i : Nat} (hi : i < prt T t) (hQ : Q (.inl (some (.double (wP T t i)))) M) : AW sys l ab_Zt k_NE_weightOf 1 24 0 [(0, .ref (22)), (1, .int (nI (t))), (2, .int (nI (i)))] [] M 0 0 Q := by
  have h24 := wq.1
  have hp4 := prt_le (wq.2.1 t ht)
  have hpa := pa_lt wq h0 ht hi
  refine aw_aload_n d_NE_weightOf_0 rfl 0 rfl ?_
  refine aw_get (ic := 22) (ci := 3) (k := 1) d_NE_weightOf_1 rfl rfl (by decide) rfl mw_124 rfl ?_
  refine aw_aload_n d_NE_weightOf_4 rfl 0 rfl ?_
  refine aw_get (ic := 22) (ci := 3) (k := 1) d_NE_weightOf_5 rfl rfl (by decide) rfl mw_124 rfl ?_
  refine aw_iload_n d_NE_weightOf_8 rfl 1 rfl ?_
  refine aw_iload_n d_NE_weightOf_9 rfl 2 rfl ?_
  refine aw_callV (K' := k_QU_partAt) (As := [.int (nI (t)), .int (nI (i))]) (rest := [.ref (17)]) (b := 17) d_NE_weightOf_10 rfl rfl rfl cs_NE_149 rfl (Nat.le_of_ble_eq_true rfl) (Nat.le_of_ble_eq_true rfl) (by decide) (by decide) (d' := 0) (w' := 0) (by decide) (by decide) ?_
  show AW _ _ _ _ _ _ _ [(0, .ref (17)), (1, .int (nI (t))), (2, .int (nI (i)))] _ _ _ _ _
  refine A_QU_partAt wq qc h0 ht (by omega) ?_
  refine ab_go1 ?_
  refine aw_callV (K' := k_QU_weightOf) (As := [.int (nI (pa T t i))]) (rest := []) (b := 17) d_NE_weightOf_13 rfl rfl rfl cs_NE_152 rfl (Nat.le_of_ble_eq_true rfl) (Nat.le_of_ble_eq_true rfl) (by decide) (by decide) (d' := 0) (w' := 0) (by decide) (by decide) ?_
  show AW _ _ _ _ _ _ _ [(0, .ref (17)), (1, .int (nI (pa T t i)))] _ _ _ _ _
  refine aw_aload_n d_QU_weightOf_0 rfl 0 rfl ?_
  refine aw_get (ic := 17) (ci := 2) (k := 2) d_QU_weightOf_1 rfl rfl (by decide) rfl mw_94 rfl ?_
  refine aw_iload_n d_QU_weightOf_4 rfl 1 rfl ?_
  refine aw_daldN d_QU_weightOf_5 rfl (by decide) (by omega) ?_
  refine aw_eqd (qw T (pa T t i)) (qc.2.2.2.1 _ (by omega)) ?_
  refine aw_dret d_QU_weightOf_6 rfl (by decide) (by decide) (ab_go1 ?_)
  refine aw_dret d_NE_weightOf_16 rfl (by decide) (by decide) ?_
  exact hQ
set_option maxRecDepth 4000 in
theorem A_productOf_loop {l : Launch} {M : ab_M} {Q : ab_O → ab_M → Prop} {T : Qg} (wq : wQ T) (qc : iQC T M) (h0 : op T (qn T) = 0) {t : Nat} {B : Nat → UInt64} (ht : t < qn T) (hB : ∀ i, t < i → i < qn T → M.2.1 49 i = B i ∧ f01 (B i)) (hQ : Q (.inl (some (.double (pdA (bP T B t) (prt T t))))) M) : ∀ (mm : Nat) (i : Nat), 5 - i = mm → (hi : i ≤ prt T t) → AW sys l ab_Zt k_NE_productOf 2 46 5 [(4, .int (nI (i))), (2, .double (pdA (bP T B t) i)), (0, .ref (22)), (1, .int (nI (t)))] [] M 0 0 Q := by
  intro mm
  induction mm using Nat.strongRecOn with
  | ind mm ih =>
    intro i hk hi
    have h24 := wq.1
    have hp4 := prt_le (wq.2.1 t ht)
    have bo := bP_ok wq h0 ht (fun i h1 h2 => (hB i h1 h2).2)
    have wo := wP_ok wq h0 ht
    refine aw_iload d_NE_productOf_5 0 rfl ?_
    refine aw_aload_n d_NE_productOf_7 rfl 2 rfl ?_
    refine aw_get (ic := 22) (ci := 3) (k := 1) d_NE_productOf_8 rfl rfl (by decide) rfl mw_124 rfl ?_
    refine aw_iload_n d_NE_productOf_11 rfl 3 rfl ?_
    refine aw_callV (K' := k_QU_partsOf) (As := [.int (nI (t))]) (rest := [.int (nI (i))]) (b := 17) d_NE_productOf_12 rfl rfl rfl cs_NE_105 rfl (Nat.le_of_ble_eq_true rfl) (Nat.le_of_ble_eq_true rfl) (by decide) (by decide) (d' := 0) (w' := 0) (by decide) (by decide) ?_
    show AW _ _ _ _ _ _ _ [(0, .ref (17)), (1, .int (nI (t)))] _ _ _ _ _
    refine A_QU_partsOf wq qc (by omega) ?_
    refine ab_go1 ?_
    refine aw_icmp_geN (tgt := 34) d_NE_productOf_15 (by decide) (by omega) (by omega) (fun c1 => ?_) (fun c1 => ?_)
    · skip
      refine aw_dload_n d_NE_productOf_34 rfl 1 rfl ?_
      refine aw_dret d_NE_productOf_35 rfl (by decide) (by decide) ?_
      exact q_d (by rw [show i = prt T t by omega]) hQ
    · skip
      refine aw_dload_n d_NE_productOf_18 rfl 1 rfl ?_
      refine aw_aload_n d_NE_productOf_19 rfl 2 rfl ?_
      refine aw_iload_n d_NE_productOf_20 rfl 3 rfl ?_
      refine aw_iload d_NE_productOf_21 0 rfl ?_
      refine aw_callV (K' := k_NE_beliefOf) (As := [.int (nI (t)), .int (nI (i))]) (rest := [.double (pdA (bP T B t) i)]) (b := 22) d_NE_productOf_23 rfl rfl rfl cs_NE_139 rfl (Nat.le_of_ble_eq_true rfl) (Nat.le_of_ble_eq_true rfl) (by decide) (by decide) (d' := 1) (w' := 24) (by decide) (by decide) ?_
      show AW _ _ _ _ _ _ _ [(0, .ref (22)), (1, .int (nI (t))), (2, .int (nI (i)))] _ _ _ _ _
      refine A_beliefOf wq qc h0 ht hB (by omega) ?_
      refine ab_go1 ?_
      refine aw_dmul d_NE_productOf_26 (f_n64 (f_mul_n (pdA_01 bo i (by omega)).1 (bo i (by omega)).1)) ?_
      refine aw_eqd (pdA (bP T B t) (i + 1)) rfl ?_
      refine aw_dstore_n (lv' := [(2, .double (pdA (bP T B t) (i + 1))), (4, .int (nI (i))), (0, .ref (22)), (1, .int (nI (t)))]) d_NE_productOf_27 rfl (by decide) rfl ?_
      refine aw_iinc (v := (nI (i + 1))) (lv' := [(4, .int (nI (i + 1))), (2, .double (pdA (bP T B t) (i + 1))), (0, .ref (22)), (1, .int (nI (t)))]) d_NE_productOf_28 (j := 1) rfl (nI_add (i) 1) (by decide) rfl ?_
      refine aw_goto (tgt := 5) d_NE_productOf_31 (by decide) ?_
      exact ih _ (by omega) (i + 1) rfl (by omega)
set_option maxRecDepth 4000 in
theorem A_productOf {l : Launch} {M : ab_M} {Q : ab_O → ab_M → Prop} {T : Qg} (wq : wQ T) (qc : iQC T M) (h0 : op T (qn T) = 0) {t : Nat} {B : Nat → UInt64} (ht : t < qn T) (hB : ∀ i, t < i → i < qn T → M.2.1 49 i = B i ∧ f01 (B i)) (hQ : Q (.inl (some (.double (pdA (bP T B t) (prt T t))))) M) : AW sys l ab_Zt k_NE_productOf 2 46 0 [(0, .ref (22)), (1, .int (nI (t)))] [] M 0 0 Q := by
  have h24 := wq.1
  have hp4 := prt_le (wq.2.1 t ht)
  have bo := bP_ok wq h0 ht (fun i h1 h2 => (hB i h1 h2).2)
  have wo := wP_ok wq h0 ht
  refine aw_dconst1 d_NE_productOf_0 ?_
  refine aw_dstore_n (lv' := [(2, .double (FP.dconst1)), (0, .ref (22)), (1, .int (nI (t)))]) d_NE_productOf_1 rfl (by decide) rfl ?_
  refine aw_iconst (v := nI 0) d_NE_productOf_2 (by decide) ?_
  refine aw_istore (lv' := [(4, .int (nI (0))), (2, .double (FP.dconst1)), (0, .ref (22)), (1, .int (nI (t)))]) d_NE_productOf_3 (by decide) rfl ?_
  exact A_productOf_loop wq qc h0 ht hB hQ _ 0 rfl (by omega)
set_option maxRecDepth 4000 in
theorem A_doubts_loop {l : Launch} {M : ab_M} {Q : ab_O → ab_M → Prop} {T : Qg} (wq : wQ T) (qc : iQC T M) (h0 : op T (qn T) = 0) {t : Nat} {B : Nat → UInt64} (ht : t < qn T) (hB : ∀ i, t < i → i < qn T → M.2.1 49 i = B i ∧ f01 (B i)) (hQ : Q (.inl (some (.double (pdO (bP T B t) (prt T t))))) M) : ∀ (mm : Nat) (i : Nat), 5 - i = mm → (hi : i ≤ prt T t) → AW sys l ab_Zt k_NE_productOfDoubts 2 46 5 [(4, .int (nI (i))), (2, .double (pdO (bP T B t) i)), (0, .ref (22)), (1, .int (nI (t)))] [] M 0 0 Q := by
  intro mm
  induction mm using Nat.strongRecOn with
  | ind mm ih =>
    intro i hk hi
    have h24 := wq.1
    have hp4 := prt_le (wq.2.1 t ht)
    have bo := bP_ok wq h0 ht (fun i h1 h2 => (hB i h1 h2).2)
    have wo := wP_ok wq h0 ht
    refine aw_iload d_NE_productOfDoubts_5 0 rfl ?_
    refine aw_aload_n d_NE_productOfDoubts_7 rfl 2 rfl ?_
    refine aw_get (ic := 22) (ci := 3) (k := 1) d_NE_productOfDoubts_8 rfl rfl (by decide) rfl mw_124 rfl ?_
    refine aw_iload_n d_NE_productOfDoubts_11 rfl 3 rfl ?_
    refine aw_callV (K' := k_QU_partsOf) (As := [.int (nI (t))]) (rest := [.int (nI (i))]) (b := 17) d_NE_productOfDoubts_12 rfl rfl rfl cs_NE_105 rfl (Nat.le_of_ble_eq_true rfl) (Nat.le_of_ble_eq_true rfl) (by decide) (by decide) (d' := 0) (w' := 0) (by decide) (by decide) ?_
    show AW _ _ _ _ _ _ _ [(0, .ref (17)), (1, .int (nI (t)))] _ _ _ _ _
    refine A_QU_partsOf wq qc (by omega) ?_
    refine ab_go1 ?_
    refine aw_icmp_geN (tgt := 36) d_NE_productOfDoubts_15 (by decide) (by omega) (by omega) (fun c1 => ?_) (fun c1 => ?_)
    · skip
      refine aw_dload_n d_NE_productOfDoubts_36 rfl 1 rfl ?_
      refine aw_dret d_NE_productOfDoubts_37 rfl (by decide) (by decide) ?_
      exact q_d (by rw [show i = prt T t by omega]) hQ
    · skip
      refine aw_dload_n d_NE_productOfDoubts_18 rfl 1 rfl ?_
      refine aw_dconst1 d_NE_productOfDoubts_19 ?_
      refine aw_aload_n d_NE_productOfDoubts_20 rfl 2 rfl ?_
      refine aw_iload_n d_NE_productOfDoubts_21 rfl 3 rfl ?_
      refine aw_iload d_NE_productOfDoubts_22 0 rfl ?_
      refine aw_callV (K' := k_NE_beliefOf) (As := [.int (nI (t)), .int (nI (i))]) (rest := [.double (FP.dconst1), .double (pdO (bP T B t) i)]) (b := 22) d_NE_productOfDoubts_24 rfl rfl rfl cs_NE_139 rfl (Nat.le_of_ble_eq_true rfl) (Nat.le_of_ble_eq_true rfl) (by decide) (by decide) (d' := 1) (w' := 24) (by decide) (by decide) ?_
      show AW _ _ _ _ _ _ _ [(0, .ref (22)), (1, .int (nI (t))), (2, .int (nI (i)))] _ _ _ _ _
      refine A_beliefOf wq qc h0 ht hB (by omega) ?_
      refine ab_go1 ?_
      refine aw_dsub d_NE_productOfDoubts_27 (f_n64 (f_sub_n fF_one (bo i (by omega)).1)) ?_
      refine aw_dmul d_NE_productOfDoubts_28 (f_n64 (f_mul_n (pdO_01 bo i (by omega)).1 (f01_sub (bo i (by omega))).1)) ?_
      refine aw_eqd (pdO (bP T B t) (i + 1)) rfl ?_
      refine aw_dstore_n (lv' := [(2, .double (pdO (bP T B t) (i + 1))), (4, .int (nI (i))), (0, .ref (22)), (1, .int (nI (t)))]) d_NE_productOfDoubts_29 rfl (by decide) rfl ?_
      refine aw_iinc (v := (nI (i + 1))) (lv' := [(4, .int (nI (i + 1))), (2, .double (pdO (bP T B t) (i + 1))), (0, .ref (22)), (1, .int (nI (t)))]) d_NE_productOfDoubts_30 (j := 1) rfl (nI_add (i) 1) (by decide) rfl ?_
      refine aw_goto (tgt := 5) d_NE_productOfDoubts_33 (by decide) ?_
      exact ih _ (by omega) (i + 1) rfl (by omega)
set_option maxRecDepth 4000 in
theorem A_doubts {l : Launch} {M : ab_M} {Q : ab_O → ab_M → Prop} {T : Qg} (wq : wQ T) (qc : iQC T M) (h0 : op T (qn T) = 0) {t : Nat} {B : Nat → UInt64} (ht : t < qn T) (hB : ∀ i, t < i → i < qn T → M.2.1 49 i = B i ∧ f01 (B i)) (hQ : Q (.inl (some (.double (pdO (bP T B t) (prt T t))))) M) : AW sys l ab_Zt k_NE_productOfDoubts 2 46 0 [(0, .ref (22)), (1, .int (nI (t)))] [] M 0 0 Q := by
  have h24 := wq.1
  have hp4 := prt_le (wq.2.1 t ht)
  have bo := bP_ok wq h0 ht (fun i h1 h2 => (hB i h1 h2).2)
  have wo := wP_ok wq h0 ht
  refine aw_dconst1 d_NE_productOfDoubts_0 ?_
  refine aw_dstore_n (lv' := [(2, .double (FP.dconst1)), (0, .ref (22)), (1, .int (nI (t)))]) d_NE_productOfDoubts_1 rfl (by decide) rfl ?_
  refine aw_iconst (v := nI 0) d_NE_productOfDoubts_2 (by decide) ?_
  refine aw_istore (lv' := [(4, .int (nI (0))), (2, .double (FP.dconst1)), (0, .ref (22)), (1, .int (nI (t)))]) d_NE_productOfDoubts_3 (by decide) rfl ?_
  exact A_doubts_loop wq qc h0 ht hB hQ _ 0 rfl (by omega)
set_option maxRecDepth 4000 in
theorem A_greatest_loop {l : Launch} {M : ab_M} {Q : ab_O → ab_M → Prop} {T : Qg} (wq : wQ T) (qc : iQC T M) (h0 : op T (qn T) = 0) {t : Nat} {B : Nat → UInt64} (ht : t < qn T) (hB : ∀ i, t < i → i < qn T → M.2.1 49 i = B i ∧ f01 (B i)) (hQ : Q (.inl (some (.double (mxB (bP T B t) (prt T t))))) M) : ∀ (mm : Nat) (i : Nat), 5 - i = mm → (hi : i ≤ prt T t) → (hi1 : 1 ≤ i) → AW sys l ab_Zt k_NE_greatestOf 2 46 10 [(4, .int (nI (i))), (2, .double (mxB (bP T B t) i)), (0, .ref (22)), (1, .int (nI (t)))] [] M 0 0 Q := by
  intro mm
  induction mm using Nat.strongRecOn with
  | ind mm ih =>
    intro i hk hi hi1
    have h24 := wq.1
    have hp4 := prt_le (wq.2.1 t ht)
    have bo := bP_ok wq h0 ht (fun i h1 h2 => (hB i h1 h2).2)
    have wo := wP_ok wq h0 ht
    refine aw_iload d_NE_greatestOf_10 0 rfl ?_
    refine aw_aload_n d_NE_greatestOf_12 rfl 2 rfl ?_
    refine aw_get (ic := 22) (ci := 3) (k := 1) d_NE_greatestOf_13 rfl rfl (by decide) rfl mw_124 rfl ?_
    refine aw_iload_n d_NE_greatestOf_16 rfl 3 rfl ?_
    refine aw_callV (K' := k_QU_partsOf) (As := [.int (nI (t))]) (rest := [.int (nI (i))]) (b := 17) d_NE_greatestOf_17 rfl rfl rfl cs_NE_105 rfl (Nat.le_of_ble_eq_true rfl) (Nat.le_of_ble_eq_true rfl) (by decide) (by decide) (d' := 0) (w' := 0) (by decide) (by decide) ?_
    show AW _ _ _ _ _ _ _ [(0, .ref (17)), (1, .int (nI (t)))] _ _ _ _ _
    refine A_QU_partsOf wq qc (by omega) ?_
    refine ab_go1 ?_
    refine aw_icmp_geN (tgt := 52) d_NE_greatestOf_20 (by decide) (by omega) (by omega) (fun c1 => ?_) (fun c1 => ?_)
    · skip
      refine aw_dload_n d_NE_greatestOf_52 rfl 1 rfl ?_
      refine aw_dret d_NE_greatestOf_53 rfl (by decide) (by decide) ?_
      exact q_d (by rw [show i = prt T t by omega]) hQ
    · skip
      refine aw_aload_n d_NE_greatestOf_23 rfl 2 rfl ?_
      refine aw_iload_n d_NE_greatestOf_24 rfl 3 rfl ?_
      refine aw_iload d_NE_greatestOf_25 0 rfl ?_
      refine aw_callV (K' := k_NE_beliefOf) (As := [.int (nI (t)), .int (nI (i))]) (rest := []) (b := 22) d_NE_greatestOf_27 rfl rfl rfl cs_NE_139 rfl (Nat.le_of_ble_eq_true rfl) (Nat.le_of_ble_eq_true rfl) (by decide) (by decide) (d' := 1) (w' := 24) (by decide) (by decide) ?_
      show AW _ _ _ _ _ _ _ [(0, .ref (22)), (1, .int (nI (t))), (2, .int (nI (i)))] _ _ _ _ _
      refine A_beliefOf wq qc h0 ht hB (by omega) ?_
      refine ab_go1 ?_
      refine aw_dstore (lv' := [(5, .double (bP T B t i)), (4, .int (nI (i))), (2, .double (mxB (bP T B t) i)), (0, .ref (22)), (1, .int (nI (t)))]) d_NE_greatestOf_30 (by decide) rfl ?_
      refine aw_dload d_NE_greatestOf_32 0 rfl ?_
      refine aw_dload_n d_NE_greatestOf_34 rfl 2 rfl ?_
      refine aw_dcmp d_NE_greatestOf_35 ?_
      refine ad_le (bo i (by omega)).1.n (mxB_01 bo (by omega) i (by omega)).1.n d_NE_greatestOf_36 (tgt := 44) (by decide) (fun c2 => ?_) (fun c2 => ?_)
      · skip
        refine aw_dload_n d_NE_greatestOf_44 rfl 2 rfl ?_
        refine aw_dstore_n (lv' := [(2, .double (mxB (bP T B t) i)), (5, .double (bP T B t i)), (4, .int (nI (i))), (0, .ref (22)), (1, .int (nI (t)))]) d_NE_greatestOf_45 rfl (by decide) rfl ?_
        refine aw_iinc (v := (nI (i + 1))) (lv' := [(4, .int (nI (i + 1))), (2, .double (mxB (bP T B t) i)), (5, .double (bP T B t i)), (0, .ref (22)), (1, .int (nI (t)))]) d_NE_greatestOf_46 (j := 2) rfl (nI_add (i) 1) (by decide) rfl ?_
        refine aw_goto (tgt := 10) d_NE_greatestOf_49 (by decide) ?_
        refine aw_pick [0, 1, 3, 4] rfl ?_
        rw [show mxB (bP T B t) i = mxB (bP T B t) (i + 1) by show _ = (if _ then _ else _); rw [if_neg (by omega)]]
        exact ih _ (by omega) (i + 1) rfl (by omega) (by omega)
      · skip
        refine aw_dload d_NE_greatestOf_39 0 rfl ?_
        refine aw_goto (tgt := 45) d_NE_greatestOf_41 (by decide) ?_
        refine aw_dstore_n (lv' := [(2, .double (bP T B t i)), (5, .double (bP T B t i)), (4, .int (nI (i))), (0, .ref (22)), (1, .int (nI (t)))]) d_NE_greatestOf_45 rfl (by decide) rfl ?_
        refine aw_iinc (v := (nI (i + 1))) (lv' := [(4, .int (nI (i + 1))), (2, .double (bP T B t i)), (5, .double (bP T B t i)), (0, .ref (22)), (1, .int (nI (t)))]) d_NE_greatestOf_46 (j := 2) rfl (nI_add (i) 1) (by decide) rfl ?_
        refine aw_goto (tgt := 10) d_NE_greatestOf_49 (by decide) ?_
        refine aw_pick [0, 1, 3, 4] rfl ?_
        rw [show bP T B t i = mxB (bP T B t) (i + 1) by show _ = (if _ then _ else _); rw [if_pos (by omega)]]
        exact ih _ (by omega) (i + 1) rfl (by omega) (by omega)
set_option maxRecDepth 4000 in
theorem A_greatest {l : Launch} {M : ab_M} {Q : ab_O → ab_M → Prop} {T : Qg} (wq : wQ T) (qc : iQC T M) (h0 : op T (qn T) = 0) {t : Nat} {B : Nat → UInt64} (ht : t < qn T) (hB : ∀ i, t < i → i < qn T → M.2.1 49 i = B i ∧ f01 (B i)) (hn : 0 < prt T t) (hQ : Q (.inl (some (.double (mxB (bP T B t) (prt T t))))) M) : AW sys l ab_Zt k_NE_greatestOf 2 46 0 [(0, .ref (22)), (1, .int (nI (t)))] [] M 0 0 Q := by
  have h24 := wq.1
  have hp4 := prt_le (wq.2.1 t ht)
  have bo := bP_ok wq h0 ht (fun i h1 h2 => (hB i h1 h2).2)
  have wo := wP_ok wq h0 ht
  refine aw_aload_n d_NE_greatestOf_0 rfl 0 rfl ?_
  refine aw_iload_n d_NE_greatestOf_1 rfl 1 rfl ?_
  refine aw_iconst (v := nI 0) d_NE_greatestOf_2 (by decide) ?_
  refine aw_callV (K' := k_NE_beliefOf) (As := [.int (nI (t)), .int (nI (0))]) (rest := []) (b := 22) d_NE_greatestOf_3 rfl rfl rfl cs_NE_139 rfl (Nat.le_of_ble_eq_true rfl) (Nat.le_of_ble_eq_true rfl) (by decide) (by decide) (d' := 1) (w' := 24) (by decide) (by decide) ?_
  show AW _ _ _ _ _ _ _ [(0, .ref (22)), (1, .int (nI (t))), (2, .int (nI (0)))] _ _ _ _ _
  refine A_beliefOf wq qc h0 ht hB (by omega) ?_
  refine ab_go1 ?_
  refine aw_dstore_n (lv' := [(2, .double (bP T B t 0)), (0, .ref (22)), (1, .int (nI (t)))]) d_NE_greatestOf_6 rfl (by decide) rfl ?_
  refine aw_iconst (v := nI 1) d_NE_greatestOf_7 (by decide) ?_
  refine aw_istore (lv' := [(4, .int (nI (1))), (2, .double (bP T B t 0)), (0, .ref (22)), (1, .int (nI (t)))]) d_NE_greatestOf_8 (by decide) rfl ?_
  rw [show bP T B t 0 = mxB (bP T B t) 1 from (mxB_1 _).symm]
  exact A_greatest_loop wq qc h0 ht hB hQ _ 1 rfl (by omega) (by omega)
set_option maxRecDepth 4000 in
theorem A_lgs_loop {l : Launch} {M : ab_M} {Q : ab_O → ab_M → Prop} {T : Qg} (wq : wQ T) (qc : iQC T M) (h0 : op T (qn T) = 0) {t : Nat} {B : Nat → UInt64} (ht : t < qn T) (hB : ∀ i, t < i → i < qn T → M.2.1 49 i = B i ∧ f01 (B i)) (hQ : Q (.inl (some (.double (sL (bP T B t) (wP T t) (prt T t))))) M) : ∀ (mm : Nat) (i : Nat), 5 - i = mm → (hi : i ≤ prt T t) → AW sys l ab_Zt k_NE_weighedLgs 2 46 5 [(4, .int (nI (i))), (2, .double (sL (bP T B t) (wP T t) i)), (0, .ref (22)), (1, .int (nI (t)))] [] M 0 0 Q := by
  intro mm
  induction mm using Nat.strongRecOn with
  | ind mm ih =>
    intro i hk hi
    have h24 := wq.1
    have hp4 := prt_le (wq.2.1 t ht)
    have bo := bP_ok wq h0 ht (fun i h1 h2 => (hB i h1 h2).2)
    have wo := wP_ok wq h0 ht
    refine aw_iload d_NE_weighedLgs_5 0 rfl ?_
    refine aw_aload_n d_NE_weighedLgs_7 rfl 2 rfl ?_
    refine aw_get (ic := 22) (ci := 3) (k := 1) d_NE_weighedLgs_8 rfl rfl (by decide) rfl mw_124 rfl ?_
    refine aw_iload_n d_NE_weighedLgs_11 rfl 3 rfl ?_
    refine aw_callV (K' := k_QU_partsOf) (As := [.int (nI (t))]) (rest := [.int (nI (i))]) (b := 17) d_NE_weighedLgs_12 rfl rfl rfl cs_NE_105 rfl (Nat.le_of_ble_eq_true rfl) (Nat.le_of_ble_eq_true rfl) (by decide) (by decide) (d' := 0) (w' := 0) (by decide) (by decide) ?_
    show AW _ _ _ _ _ _ _ [(0, .ref (17)), (1, .int (nI (t)))] _ _ _ _ _
    refine A_QU_partsOf wq qc (by omega) ?_
    refine ab_go1 ?_
    refine aw_icmp_geN (tgt := 45) d_NE_weighedLgs_15 (by decide) (by omega) (by omega) (fun c1 => ?_) (fun c1 => ?_)
    · skip
      refine aw_dload_n d_NE_weighedLgs_45 rfl 1 rfl ?_
      refine aw_dret d_NE_weighedLgs_46 rfl (by decide) (by decide) ?_
      exact q_d (by rw [show i = prt T t by omega]) hQ
    · skip
      refine aw_dload_n d_NE_weighedLgs_18 rfl 1 rfl ?_
      refine aw_aload_n d_NE_weighedLgs_19 rfl 2 rfl ?_
      refine aw_iload_n d_NE_weighedLgs_20 rfl 3 rfl ?_
      refine aw_iload d_NE_weighedLgs_21 0 rfl ?_
      refine aw_callV (K' := k_NE_weightOf) (As := [.int (nI (t)), .int (nI (i))]) (rest := [.double (sL (bP T B t) (wP T t) i)]) (b := 22) d_NE_weighedLgs_23 rfl rfl rfl cs_NE_155 rfl (Nat.le_of_ble_eq_true rfl) (Nat.le_of_ble_eq_true rfl) (by decide) (by decide) (d' := 1) (w' := 24) (by decide) (by decide) ?_
      show AW _ _ _ _ _ _ _ [(0, .ref (22)), (1, .int (nI (t))), (2, .int (nI (i)))] _ _ _ _ _
      refine A_weightOf wq qc h0 ht (by omega) ?_
      refine ab_go1 ?_
      refine aw_aload_n d_NE_weighedLgs_26 rfl 2 rfl ?_
      refine aw_iload_n d_NE_weighedLgs_27 rfl 3 rfl ?_
      refine aw_iload d_NE_weighedLgs_28 0 rfl ?_
      refine aw_callV (K' := k_NE_beliefOf) (As := [.int (nI (t)), .int (nI (i))]) (rest := [.double (wP T t i), .double (sL (bP T B t) (wP T t) i)]) (b := 22) d_NE_weighedLgs_30 rfl rfl rfl cs_NE_139 rfl (Nat.le_of_ble_eq_true rfl) (Nat.le_of_ble_eq_true rfl) (by decide) (by decide) (d' := 1) (w' := 24) (by decide) (by decide) ?_
      show AW _ _ _ _ _ _ _ [(0, .ref (22)), (1, .int (nI (t))), (2, .int (nI (i)))] _ _ _ _ _
      refine A_beliefOf wq qc h0 ht hB (by omega) ?_
      refine ab_go1 ?_
      refine aw_callSN (K' := k_BF_lg) (As := [.double (bP T B t i)]) (rest := [.double (wP T t i), .double (sL (bP T B t) (wP T t) i)]) d_NE_weighedLgs_33 wn_NE_157 cs_NE_157 rfl (Nat.le_of_ble_eq_true rfl) (Nat.le_of_ble_eq_true rfl) (by decide) (by decide) (d' := 0) (w' := 0) (by decide) (by decide) ?_
      show AW _ _ _ _ _ _ _ [(0, .double (bP T B t i))] _ _ _ _ _
      refine A_lg (bo i (by omega)) ?_
      refine ab_go1 ?_
      refine aw_dmul d_NE_weighedLgs_36 (f_n64 (f_mul_n (wo i (by omega)).1 (lg_bd (bo i (by omega))).1)) ?_
      refine aw_dadd d_NE_weighedLgs_37 (f_n64 (f_add_n (sL_ok bo wo i (by omega) (by omega)).1 (wl_ok (lg_bd (bo i (by omega))) (wo i (by omega))).1)) ?_
      refine aw_eqd (sL (bP T B t) (wP T t) (i + 1)) rfl ?_
      refine aw_dstore_n (lv' := [(2, .double (sL (bP T B t) (wP T t) (i + 1))), (4, .int (nI (i))), (0, .ref (22)), (1, .int (nI (t)))]) d_NE_weighedLgs_38 rfl (by decide) rfl ?_
      refine aw_iinc (v := (nI (i + 1))) (lv' := [(4, .int (nI (i + 1))), (2, .double (sL (bP T B t) (wP T t) (i + 1))), (0, .ref (22)), (1, .int (nI (t)))]) d_NE_weighedLgs_39 (j := 1) rfl (nI_add (i) 1) (by decide) rfl ?_
      refine aw_goto (tgt := 5) d_NE_weighedLgs_42 (by decide) ?_
      exact ih _ (by omega) (i + 1) rfl (by omega)
set_option maxRecDepth 4000 in
theorem A_lgs {l : Launch} {M : ab_M} {Q : ab_O → ab_M → Prop} {T : Qg} (wq : wQ T) (qc : iQC T M) (h0 : op T (qn T) = 0) {t : Nat} {B : Nat → UInt64} (ht : t < qn T) (hB : ∀ i, t < i → i < qn T → M.2.1 49 i = B i ∧ f01 (B i)) (hQ : Q (.inl (some (.double (sL (bP T B t) (wP T t) (prt T t))))) M) : AW sys l ab_Zt k_NE_weighedLgs 2 46 0 [(0, .ref (22)), (1, .int (nI (t)))] [] M 0 0 Q := by
  have h24 := wq.1
  have hp4 := prt_le (wq.2.1 t ht)
  have bo := bP_ok wq h0 ht (fun i h1 h2 => (hB i h1 h2).2)
  have wo := wP_ok wq h0 ht
  refine aw_dconst0 d_NE_weighedLgs_0 ?_
  refine aw_dstore_n (lv' := [(2, .double (FP.dconst0)), (0, .ref (22)), (1, .int (nI (t)))]) d_NE_weighedLgs_1 rfl (by decide) rfl ?_
  refine aw_iconst (v := nI 0) d_NE_weighedLgs_2 (by decide) ?_
  refine aw_istore (lv' := [(4, .int (nI (0))), (2, .double (FP.dconst0)), (0, .ref (22)), (1, .int (nI (t)))]) d_NE_weighedLgs_3 (by decide) rfl ?_
  exact A_lgs_loop wq qc h0 ht hB hQ _ 0 rfl (by omega)
set_option maxRecDepth 4000 in
theorem A_wbs_loop {l : Launch} {M : ab_M} {Q : ab_O → ab_M → Prop} {T : Qg} (wq : wQ T) (qc : iQC T M) (h0 : op T (qn T) = 0) {t : Nat} {B : Nat → UInt64} (ht : t < qn T) (hB : ∀ i, t < i → i < qn T → M.2.1 49 i = B i ∧ f01 (B i)) (hQ : Q (.inl (some (.double (sB (bP T B t) (wP T t) (prt T t))))) M) : ∀ (mm : Nat) (i : Nat), 5 - i = mm → (hi : i ≤ prt T t) → AW sys l ab_Zt k_NE_weighedBeliefs 2 46 5 [(4, .int (nI (i))), (2, .double (sB (bP T B t) (wP T t) i)), (0, .ref (22)), (1, .int (nI (t)))] [] M 0 0 Q := by
  intro mm
  induction mm using Nat.strongRecOn with
  | ind mm ih =>
    intro i hk hi
    have h24 := wq.1
    have hp4 := prt_le (wq.2.1 t ht)
    have bo := bP_ok wq h0 ht (fun i h1 h2 => (hB i h1 h2).2)
    have wo := wP_ok wq h0 ht
    refine aw_iload d_NE_weighedBeliefs_5 0 rfl ?_
    refine aw_aload_n d_NE_weighedBeliefs_7 rfl 2 rfl ?_
    refine aw_get (ic := 22) (ci := 3) (k := 1) d_NE_weighedBeliefs_8 rfl rfl (by decide) rfl mw_124 rfl ?_
    refine aw_iload_n d_NE_weighedBeliefs_11 rfl 3 rfl ?_
    refine aw_callV (K' := k_QU_partsOf) (As := [.int (nI (t))]) (rest := [.int (nI (i))]) (b := 17) d_NE_weighedBeliefs_12 rfl rfl rfl cs_NE_105 rfl (Nat.le_of_ble_eq_true rfl) (Nat.le_of_ble_eq_true rfl) (by decide) (by decide) (d' := 0) (w' := 0) (by decide) (by decide) ?_
    show AW _ _ _ _ _ _ _ [(0, .ref (17)), (1, .int (nI (t)))] _ _ _ _ _
    refine A_QU_partsOf wq qc (by omega) ?_
    refine ab_go1 ?_
    refine aw_icmp_geN (tgt := 42) d_NE_weighedBeliefs_15 (by decide) (by omega) (by omega) (fun c1 => ?_) (fun c1 => ?_)
    · skip
      refine aw_dload_n d_NE_weighedBeliefs_42 rfl 1 rfl ?_
      refine aw_dret d_NE_weighedBeliefs_43 rfl (by decide) (by decide) ?_
      exact q_d (by rw [show i = prt T t by omega]) hQ
    · skip
      refine aw_dload_n d_NE_weighedBeliefs_18 rfl 1 rfl ?_
      refine aw_aload_n d_NE_weighedBeliefs_19 rfl 2 rfl ?_
      refine aw_iload_n d_NE_weighedBeliefs_20 rfl 3 rfl ?_
      refine aw_iload d_NE_weighedBeliefs_21 0 rfl ?_
      refine aw_callV (K' := k_NE_weightOf) (As := [.int (nI (t)), .int (nI (i))]) (rest := [.double (sB (bP T B t) (wP T t) i)]) (b := 22) d_NE_weighedBeliefs_23 rfl rfl rfl cs_NE_155 rfl (Nat.le_of_ble_eq_true rfl) (Nat.le_of_ble_eq_true rfl) (by decide) (by decide) (d' := 1) (w' := 24) (by decide) (by decide) ?_
      show AW _ _ _ _ _ _ _ [(0, .ref (22)), (1, .int (nI (t))), (2, .int (nI (i)))] _ _ _ _ _
      refine A_weightOf wq qc h0 ht (by omega) ?_
      refine ab_go1 ?_
      refine aw_aload_n d_NE_weighedBeliefs_26 rfl 2 rfl ?_
      refine aw_iload_n d_NE_weighedBeliefs_27 rfl 3 rfl ?_
      refine aw_iload d_NE_weighedBeliefs_28 0 rfl ?_
      refine aw_callV (K' := k_NE_beliefOf) (As := [.int (nI (t)), .int (nI (i))]) (rest := [.double (wP T t i), .double (sB (bP T B t) (wP T t) i)]) (b := 22) d_NE_weighedBeliefs_30 rfl rfl rfl cs_NE_139 rfl (Nat.le_of_ble_eq_true rfl) (Nat.le_of_ble_eq_true rfl) (by decide) (by decide) (d' := 1) (w' := 24) (by decide) (by decide) ?_
      show AW _ _ _ _ _ _ _ [(0, .ref (22)), (1, .int (nI (t))), (2, .int (nI (i)))] _ _ _ _ _
      refine A_beliefOf wq qc h0 ht hB (by omega) ?_
      refine ab_go1 ?_
      refine aw_dmul d_NE_weighedBeliefs_33 (f_n64 (f_mul_n (wo i (by omega)).1 (bo i (by omega)).1)) ?_
      refine aw_dadd d_NE_weighedBeliefs_34 (f_n64 (f_add_n (sB_ok bo wo i (by omega) (by omega)).1 (wb_ok (bo i (by omega)) (wo i (by omega))).1)) ?_
      refine aw_eqd (sB (bP T B t) (wP T t) (i + 1)) rfl ?_
      refine aw_dstore_n (lv' := [(2, .double (sB (bP T B t) (wP T t) (i + 1))), (4, .int (nI (i))), (0, .ref (22)), (1, .int (nI (t)))]) d_NE_weighedBeliefs_35 rfl (by decide) rfl ?_
      refine aw_iinc (v := (nI (i + 1))) (lv' := [(4, .int (nI (i + 1))), (2, .double (sB (bP T B t) (wP T t) (i + 1))), (0, .ref (22)), (1, .int (nI (t)))]) d_NE_weighedBeliefs_36 (j := 1) rfl (nI_add (i) 1) (by decide) rfl ?_
      refine aw_goto (tgt := 5) d_NE_weighedBeliefs_39 (by decide) ?_
      exact ih _ (by omega) (i + 1) rfl (by omega)
set_option maxRecDepth 4000 in
theorem A_wbs {l : Launch} {M : ab_M} {Q : ab_O → ab_M → Prop} {T : Qg} (wq : wQ T) (qc : iQC T M) (h0 : op T (qn T) = 0) {t : Nat} {B : Nat → UInt64} (ht : t < qn T) (hB : ∀ i, t < i → i < qn T → M.2.1 49 i = B i ∧ f01 (B i)) (hQ : Q (.inl (some (.double (sB (bP T B t) (wP T t) (prt T t))))) M) : AW sys l ab_Zt k_NE_weighedBeliefs 2 46 0 [(0, .ref (22)), (1, .int (nI (t)))] [] M 0 0 Q := by
  have h24 := wq.1
  have hp4 := prt_le (wq.2.1 t ht)
  have bo := bP_ok wq h0 ht (fun i h1 h2 => (hB i h1 h2).2)
  have wo := wP_ok wq h0 ht
  refine aw_dconst0 d_NE_weighedBeliefs_0 ?_
  refine aw_dstore_n (lv' := [(2, .double (FP.dconst0)), (0, .ref (22)), (1, .int (nI (t)))]) d_NE_weighedBeliefs_1 rfl (by decide) rfl ?_
  refine aw_iconst (v := nI 0) d_NE_weighedBeliefs_2 (by decide) ?_
  refine aw_istore (lv' := [(4, .int (nI (0))), (2, .double (FP.dconst0)), (0, .ref (22)), (1, .int (nI (t)))]) d_NE_weighedBeliefs_3 (by decide) rfl ?_
  exact A_wbs_loop wq qc h0 ht hB hQ _ 0 rfl (by omega)
set_option maxRecDepth 4000 in
theorem A_ws_loop {l : Launch} {M : ab_M} {Q : ab_O → ab_M → Prop} {T : Qg} (wq : wQ T) (qc : iQC T M) (h0 : op T (qn T) = 0) {t : Nat} {B : Nat → UInt64} (ht : t < qn T) (hB : ∀ i, t < i → i < qn T → M.2.1 49 i = B i ∧ f01 (B i)) (hQ : Q (.inl (some (.double (sW (wP T t) (prt T t))))) M) : ∀ (mm : Nat) (i : Nat), 5 - i = mm → (hi : i ≤ prt T t) → AW sys l ab_Zt k_NE_weightsOf 2 46 5 [(4, .int (nI (i))), (2, .double (sW (wP T t) i)), (0, .ref (22)), (1, .int (nI (t)))] [] M 0 0 Q := by
  intro mm
  induction mm using Nat.strongRecOn with
  | ind mm ih =>
    intro i hk hi
    have h24 := wq.1
    have hp4 := prt_le (wq.2.1 t ht)
    have bo := bP_ok wq h0 ht (fun i h1 h2 => (hB i h1 h2).2)
    have wo := wP_ok wq h0 ht
    refine aw_iload d_NE_weightsOf_5 0 rfl ?_
    refine aw_aload_n d_NE_weightsOf_7 rfl 2 rfl ?_
    refine aw_get (ic := 22) (ci := 3) (k := 1) d_NE_weightsOf_8 rfl rfl (by decide) rfl mw_124 rfl ?_
    refine aw_iload_n d_NE_weightsOf_11 rfl 3 rfl ?_
    refine aw_callV (K' := k_QU_partsOf) (As := [.int (nI (t))]) (rest := [.int (nI (i))]) (b := 17) d_NE_weightsOf_12 rfl rfl rfl cs_NE_105 rfl (Nat.le_of_ble_eq_true rfl) (Nat.le_of_ble_eq_true rfl) (by decide) (by decide) (d' := 0) (w' := 0) (by decide) (by decide) ?_
    show AW _ _ _ _ _ _ _ [(0, .ref (17)), (1, .int (nI (t)))] _ _ _ _ _
    refine A_QU_partsOf wq qc (by omega) ?_
    refine ab_go1 ?_
    refine aw_icmp_geN (tgt := 34) d_NE_weightsOf_15 (by decide) (by omega) (by omega) (fun c1 => ?_) (fun c1 => ?_)
    · skip
      refine aw_dload_n d_NE_weightsOf_34 rfl 1 rfl ?_
      refine aw_dret d_NE_weightsOf_35 rfl (by decide) (by decide) ?_
      exact q_d (by rw [show i = prt T t by omega]) hQ
    · skip
      refine aw_dload_n d_NE_weightsOf_18 rfl 1 rfl ?_
      refine aw_aload_n d_NE_weightsOf_19 rfl 2 rfl ?_
      refine aw_iload_n d_NE_weightsOf_20 rfl 3 rfl ?_
      refine aw_iload d_NE_weightsOf_21 0 rfl ?_
      refine aw_callV (K' := k_NE_weightOf) (As := [.int (nI (t)), .int (nI (i))]) (rest := [.double (sW (wP T t) i)]) (b := 22) d_NE_weightsOf_23 rfl rfl rfl cs_NE_155 rfl (Nat.le_of_ble_eq_true rfl) (Nat.le_of_ble_eq_true rfl) (by decide) (by decide) (d' := 1) (w' := 24) (by decide) (by decide) ?_
      show AW _ _ _ _ _ _ _ [(0, .ref (22)), (1, .int (nI (t))), (2, .int (nI (i)))] _ _ _ _ _
      refine A_weightOf wq qc h0 ht (by omega) ?_
      refine ab_go1 ?_
      refine aw_dadd d_NE_weightsOf_26 (f_n64 (f_add_n (sW_ok wo i (by omega) (by omega)).1 (wo i (by omega)).1)) ?_
      refine aw_eqd (sW (wP T t) (i + 1)) rfl ?_
      refine aw_dstore_n (lv' := [(2, .double (sW (wP T t) (i + 1))), (4, .int (nI (i))), (0, .ref (22)), (1, .int (nI (t)))]) d_NE_weightsOf_27 rfl (by decide) rfl ?_
      refine aw_iinc (v := (nI (i + 1))) (lv' := [(4, .int (nI (i + 1))), (2, .double (sW (wP T t) (i + 1))), (0, .ref (22)), (1, .int (nI (t)))]) d_NE_weightsOf_28 (j := 1) rfl (nI_add (i) 1) (by decide) rfl ?_
      refine aw_goto (tgt := 5) d_NE_weightsOf_31 (by decide) ?_
      exact ih _ (by omega) (i + 1) rfl (by omega)
set_option maxRecDepth 4000 in
theorem A_ws {l : Launch} {M : ab_M} {Q : ab_O → ab_M → Prop} {T : Qg} (wq : wQ T) (qc : iQC T M) (h0 : op T (qn T) = 0) {t : Nat} {B : Nat → UInt64} (ht : t < qn T) (hB : ∀ i, t < i → i < qn T → M.2.1 49 i = B i ∧ f01 (B i)) (hQ : Q (.inl (some (.double (sW (wP T t) (prt T t))))) M) : AW sys l ab_Zt k_NE_weightsOf 2 46 0 [(0, .ref (22)), (1, .int (nI (t)))] [] M 0 0 Q := by
  have h24 := wq.1
  have hp4 := prt_le (wq.2.1 t ht)
  have bo := bP_ok wq h0 ht (fun i h1 h2 => (hB i h1 h2).2)
  have wo := wP_ok wq h0 ht
  refine aw_dconst0 d_NE_weightsOf_0 ?_
  refine aw_dstore_n (lv' := [(2, .double (FP.dconst0)), (0, .ref (22)), (1, .int (nI (t)))]) d_NE_weightsOf_1 rfl (by decide) rfl ?_
  refine aw_iconst (v := nI 0) d_NE_weightsOf_2 (by decide) ?_
  refine aw_istore (lv' := [(4, .int (nI (0))), (2, .double (FP.dconst0)), (0, .ref (22)), (1, .int (nI (t)))]) d_NE_weightsOf_3 (by decide) rfl ?_
  exact A_ws_loop wq qc h0 ht hB hQ _ 0 rfl (by omega)
set_option maxRecDepth 4000 in
theorem A_beliefIn {l : Launch} {M : ab_M} {Q : ab_O → ab_M → Prop} {D : Dg} {T : Qg} {S : Sg} (wd : wD D) (dc : iDC D M) (wq : wQ T) (qc : iQC T M) (ws : wS S) (sc : iSC S M) (h0 : op T (qn T) = 0) {t : Nat} {B : Nat → UInt64} (ht : t < qn T) (hB : ∀ i, t < i → i < qn T → M.2.1 49 i = B i ∧ f01 (B i)) {d : Nat} (hd : d < dn D) (hl : 0 < dl D d) (hh : qk T t ≤ 4 → M.1 (yR sys 23 t) d = nI (tfT T D t d) ∧ M.1 48 t = nI (cfT T D t)) (hQ : Q (.inl (some (.double (stD S T D d B t)))) M) : AW sys l ab_Zt k_NE_beliefIn 3 72 0 [(0, .ref (22)), (1, .int (nI (t))), (2, .int (nI (d)))] [] M 0 0 Q := by
  have h24 := wq.1
  have hp4 := prt_le (wq.2.1 t ht)
  have bo := bP_ok wq h0 ht (fun i h1 h2 => (hB i h1 h2).2)
  have wo := wP_ok wq h0 ht
  have h12 := wd.1
  have hk11 := (wq.2.1 t ht).1
  refine aw_aload_n d_NE_beliefIn_0 rfl 0 rfl ?_
  refine aw_get (ic := 22) (ci := 3) (k := 1) d_NE_beliefIn_1 rfl rfl (by decide) rfl mw_124 rfl ?_
  refine aw_iload_n d_NE_beliefIn_4 rfl 1 rfl ?_
  refine aw_callV (K' := k_QU_kindOf) (As := [.int (nI (t))]) (rest := []) (b := 17) d_NE_beliefIn_5 rfl rfl rfl cs_NE_58 rfl (Nat.le_of_ble_eq_true rfl) (Nat.le_of_ble_eq_true rfl) (by decide) (by decide) (d' := 0) (w' := 0) (by decide) (by decide) ?_
  show AW _ _ _ _ _ _ _ [(0, .ref (17)), (1, .int (nI (t)))] _ _ _ _ _
  refine aw_aload_n d_QU_kindOf_0 rfl 0 rfl ?_
  refine aw_get (ic := 17) (ci := 2) (k := 0) d_QU_kindOf_1 rfl rfl (by decide) rfl mw_92 rfl ?_
  refine aw_iload_n d_QU_kindOf_4 rfl 1 rfl ?_
  refine aw_ialdN d_QU_kindOf_5 rfl (by decide) (by omega) ?_
  refine aw_eqi (nI (qk T t)) (qc.2.1 _ (by omega)) ?_
  refine aw_iret d_QU_kindOf_6 rfl (by decide) (by decide) (ab_go1 ?_)
  by_cases c1 : qk T t = 5
  · refine aw_tabN 52 (by omega) d_NE_beliefIn_8 (by rw [c1]; exact Or.inr ⟨_, by decide, by decide, rfl, by decide⟩) ?_
    have hpp := prt_pos (wq.2.1 t ht) (by omega)
    have hp2 : 10 < qk T t → 1 < prt T t := fun h => by rw [hpp.2 h]; omega
    refine aw_aload_n d_NE_beliefIn_52 rfl 0 rfl ?_
    refine aw_iload_n d_NE_beliefIn_53 rfl 1 rfl ?_
    refine aw_callV (K' := k_NE_productOf) (As := [.int (nI (t))]) (rest := []) (b := 22) d_NE_beliefIn_54 rfl rfl rfl cs_NE_112 rfl (Nat.le_of_ble_eq_true rfl) (Nat.le_of_ble_eq_true rfl) (by decide) (by decide) (d' := 2) (w' := 46) (by decide) (by decide) ?_
    show AW _ _ _ _ _ _ _ [(0, .ref (22)), (1, .int (nI (t)))] _ _ _ _ _
    refine A_productOf wq qc h0 ht hB ?_
    refine ab_go1 ?_
    refine aw_dret d_NE_beliefIn_57 rfl (by decide) (by decide) ?_
    simp only [stD] at hQ; rw [if_neg (by omega), c1] at hQ; exact q_d (by first | exact (jn5 _ _ _).symm | rfl) hQ
  by_cases c2 : qk T t = 6
  · refine aw_tabN 58 (by omega) d_NE_beliefIn_8 (by rw [c2]; exact Or.inr ⟨_, by decide, by decide, rfl, by decide⟩) ?_
    have hpp := prt_pos (wq.2.1 t ht) (by omega)
    have hp2 : 10 < qk T t → 1 < prt T t := fun h => by rw [hpp.2 h]; omega
    refine aw_dconst1 d_NE_beliefIn_58 ?_
    refine aw_aload_n d_NE_beliefIn_59 rfl 0 rfl ?_
    refine aw_iload_n d_NE_beliefIn_60 rfl 1 rfl ?_
    refine aw_callV (K' := k_NE_productOfDoubts) (As := [.int (nI (t))]) (rest := [.double (FP.dconst1)]) (b := 22) d_NE_beliefIn_61 rfl rfl rfl cs_NE_116 rfl (Nat.le_of_ble_eq_true rfl) (Nat.le_of_ble_eq_true rfl) (by decide) (by decide) (d' := 2) (w' := 46) (by decide) (by decide) ?_
    show AW _ _ _ _ _ _ _ [(0, .ref (22)), (1, .int (nI (t)))] _ _ _ _ _
    refine A_doubts wq qc h0 ht hB ?_
    refine ab_go1 ?_
    refine aw_dsub d_NE_beliefIn_64 (f_n64 (f_sub_n fF_one (pdO_01 bo _ (Nat.le_refl _)).1)) ?_
    refine aw_dret d_NE_beliefIn_65 rfl (by decide) (by decide) ?_
    simp only [stD] at hQ; rw [if_neg (by omega), c2] at hQ; exact q_d (by first | exact (jn6 _ _ _).symm | rfl) hQ
  by_cases c3 : qk T t = 7
  · refine aw_tabN 66 (by omega) d_NE_beliefIn_8 (by rw [c3]; exact Or.inr ⟨_, by decide, by decide, rfl, by decide⟩) ?_
    have hpp := prt_pos (wq.2.1 t ht) (by omega)
    have hp2 : 10 < qk T t → 1 < prt T t := fun h => by rw [hpp.2 h]; omega
    refine aw_aload_n d_NE_beliefIn_66 rfl 0 rfl ?_
    refine aw_iload_n d_NE_beliefIn_67 rfl 1 rfl ?_
    refine aw_callV (K' := k_NE_greatestOf) (As := [.int (nI (t))]) (rest := []) (b := 22) d_NE_beliefIn_68 rfl rfl rfl cs_NE_119 rfl (Nat.le_of_ble_eq_true rfl) (Nat.le_of_ble_eq_true rfl) (by decide) (by decide) (d' := 2) (w' := 46) (by decide) (by decide) ?_
    show AW _ _ _ _ _ _ _ [(0, .ref (22)), (1, .int (nI (t)))] _ _ _ _ _
    refine A_greatest wq qc h0 ht hB hpp.1 ?_
    refine ab_go1 ?_
    refine aw_dret d_NE_beliefIn_71 rfl (by decide) (by decide) ?_
    simp only [stD] at hQ; rw [if_neg (by omega), c3] at hQ; exact q_d (by first | exact (jn7 _ _ _).symm | rfl) hQ
  by_cases c4 : qk T t = 8
  · refine aw_tabN 72 (by omega) d_NE_beliefIn_8 (by rw [c4]; exact Or.inr ⟨_, by decide, by decide, rfl, by decide⟩) ?_
    have hpp := prt_pos (wq.2.1 t ht) (by omega)
    have hp2 : 10 < qk T t → 1 < prt T t := fun h => by rw [hpp.2 h]; omega
    refine aw_aload_n d_NE_beliefIn_72 rfl 0 rfl ?_
    refine aw_iload_n d_NE_beliefIn_73 rfl 1 rfl ?_
    refine aw_callV (K' := k_NE_weighedLgs) (As := [.int (nI (t))]) (rest := []) (b := 22) d_NE_beliefIn_74 rfl rfl rfl cs_NE_122 rfl (Nat.le_of_ble_eq_true rfl) (Nat.le_of_ble_eq_true rfl) (by decide) (by decide) (d' := 2) (w' := 46) (by decide) (by decide) ?_
    show AW _ _ _ _ _ _ _ [(0, .ref (22)), (1, .int (nI (t)))] _ _ _ _ _
    refine A_lgs wq qc h0 ht hB ?_
    refine ab_go1 ?_
    refine aw_aload_n d_NE_beliefIn_77 rfl 0 rfl ?_
    refine aw_iload_n d_NE_beliefIn_78 rfl 1 rfl ?_
    refine aw_callV (K' := k_NE_weightsOf) (As := [.int (nI (t))]) (rest := [.double (sL (bP T B t) (wP T t) (prt T t))]) (b := 22) d_NE_beliefIn_79 rfl rfl rfl cs_NE_125 rfl (Nat.le_of_ble_eq_true rfl) (Nat.le_of_ble_eq_true rfl) (by decide) (by decide) (d' := 2) (w' := 46) (by decide) (by decide) ?_
    show AW _ _ _ _ _ _ _ [(0, .ref (22)), (1, .int (nI (t)))] _ _ _ _ _
    refine A_ws wq qc h0 ht hB ?_
    refine ab_go1 ?_
    refine aw_callSN (K' := k_BF_ratio) (As := [.double (sL (bP T B t) (wP T t) (prt T t)), .double (sW (wP T t) (prt T t))]) (rest := []) d_NE_beliefIn_82 wn_NE_128 cs_NE_128 rfl (Nat.le_of_ble_eq_true rfl) (Nat.le_of_ble_eq_true rfl) (by decide) (by decide) (d' := 0) (w' := 0) (by decide) (by decide) ?_
    show AW _ _ _ _ _ _ _ [(0, .double (sL (bP T B t) (wP T t) (prt T t))), (2, .double (sW (wP T t) (prt T t)))] _ _ _ _ _
    refine A_ratio (sL_ok bo wo _ (Nat.le_refl _) hp4).1 (sW_ok wo _ (Nat.le_refl _) hp4).1 ((sW_ok wo _ (Nat.le_refl _) hp4).2.2.2 hpp.1) ?_
    show ab_ret _ (.inl (some (.double (mnD (bP T B t) (wP T t) (prt T t))))) _
    refine ab_go1 ?_
    refine aw_callSN (K' := k_BF_ex) (As := [.double (mnD (bP T B t) (wP T t) (prt T t))]) (rest := []) d_NE_beliefIn_85 wn_NE_132 cs_NE_132 rfl (Nat.le_of_ble_eq_true rfl) (Nat.le_of_ble_eq_true rfl) (by decide) (by decide) (d' := 0) (w' := 0) (by decide) (by decide) ?_
    show AW _ _ _ _ _ _ _ [(0, .double (mnD (bP T B t) (wP T t) (prt T t)))] _ _ _ _ _
    refine A_ex (mn_ok bo wo hpp.1 hp4).1 (mn_ok bo wo hpp.1 hp4).2 ?_
    refine ab_go1 ?_
    refine aw_dret d_NE_beliefIn_88 rfl (by decide) (by decide) ?_
    simp only [stD] at hQ; rw [if_neg (by omega), c4] at hQ; exact q_d (by first | exact (jn8 _ _ _).symm | rfl) hQ
  by_cases c5 : qk T t = 9
  · refine aw_tabN 89 (by omega) d_NE_beliefIn_8 (by rw [c5]; exact Or.inr ⟨_, by decide, by decide, rfl, by decide⟩) ?_
    have hpp := prt_pos (wq.2.1 t ht) (by omega)
    have hp2 : 10 < qk T t → 1 < prt T t := fun h => by rw [hpp.2 h]; omega
    refine aw_aload_n d_NE_beliefIn_89 rfl 0 rfl ?_
    refine aw_iload_n d_NE_beliefIn_90 rfl 1 rfl ?_
    refine aw_callV (K' := k_NE_weighedBeliefs) (As := [.int (nI (t))]) (rest := []) (b := 22) d_NE_beliefIn_91 rfl rfl rfl cs_NE_136 rfl (Nat.le_of_ble_eq_true rfl) (Nat.le_of_ble_eq_true rfl) (by decide) (by decide) (d' := 2) (w' := 46) (by decide) (by decide) ?_
    show AW _ _ _ _ _ _ _ [(0, .ref (22)), (1, .int (nI (t)))] _ _ _ _ _
    refine A_wbs wq qc h0 ht hB ?_
    refine ab_go1 ?_
    refine aw_aload_n d_NE_beliefIn_94 rfl 0 rfl ?_
    refine aw_iload_n d_NE_beliefIn_95 rfl 1 rfl ?_
    refine aw_callV (K' := k_NE_weightsOf) (As := [.int (nI (t))]) (rest := [.double (sB (bP T B t) (wP T t) (prt T t))]) (b := 22) d_NE_beliefIn_96 rfl rfl rfl cs_NE_125 rfl (Nat.le_of_ble_eq_true rfl) (Nat.le_of_ble_eq_true rfl) (by decide) (by decide) (d' := 2) (w' := 46) (by decide) (by decide) ?_
    show AW _ _ _ _ _ _ _ [(0, .ref (22)), (1, .int (nI (t)))] _ _ _ _ _
    refine A_ws wq qc h0 ht hB ?_
    refine ab_go1 ?_
    refine aw_callSN (K' := k_BF_ratio) (As := [.double (sB (bP T B t) (wP T t) (prt T t)), .double (sW (wP T t) (prt T t))]) (rest := []) d_NE_beliefIn_99 wn_NE_128 cs_NE_128 rfl (Nat.le_of_ble_eq_true rfl) (Nat.le_of_ble_eq_true rfl) (by decide) (by decide) (d' := 0) (w' := 0) (by decide) (by decide) ?_
    show AW _ _ _ _ _ _ _ [(0, .double (sB (bP T B t) (wP T t) (prt T t))), (2, .double (sW (wP T t) (prt T t)))] _ _ _ _ _
    refine A_ratio (sB_ok bo wo _ (Nat.le_refl _) hp4).1 (sW_ok wo _ (Nat.le_refl _) hp4).1 ((sW_ok wo _ (Nat.le_refl _) hp4).2.2.2 hpp.1) ?_
    show ab_ret _ (.inl (some (.double (poD (bP T B t) (wP T t) (prt T t))))) _
    refine ab_go1 ?_
    refine aw_dret d_NE_beliefIn_102 rfl (by decide) (by decide) ?_
    simp only [stD] at hQ; rw [if_neg (by omega), c5] at hQ; exact q_d (by first | exact (jn9 _ _ _).symm | rfl) hQ
  by_cases c6 : qk T t = 10
  · refine aw_tabN 103 (by omega) d_NE_beliefIn_8 (by rw [c6]; exact Or.inr ⟨_, by decide, by decide, rfl, by decide⟩) ?_
    have hpp := prt_pos (wq.2.1 t ht) (by omega)
    have hp2 : 10 < qk T t → 1 < prt T t := fun h => by rw [hpp.2 h]; omega
    refine aw_dconst1 d_NE_beliefIn_103 ?_
    refine aw_aload_n d_NE_beliefIn_104 rfl 0 rfl ?_
    refine aw_iload_n d_NE_beliefIn_105 rfl 1 rfl ?_
    refine aw_iconst (v := nI 0) d_NE_beliefIn_106 (by decide) ?_
    refine aw_callV (K' := k_NE_beliefOf) (As := [.int (nI (t)), .int (nI (0))]) (rest := [.double (FP.dconst1)]) (b := 22) d_NE_beliefIn_107 rfl rfl rfl cs_NE_139 rfl (Nat.le_of_ble_eq_true rfl) (Nat.le_of_ble_eq_true rfl) (by decide) (by decide) (d' := 1) (w' := 24) (by decide) (by decide) ?_
    show AW _ _ _ _ _ _ _ [(0, .ref (22)), (1, .int (nI (t))), (2, .int (nI (0)))] _ _ _ _ _
    refine A_beliefOf wq qc h0 ht hB (by omega) ?_
    refine ab_go1 ?_
    refine aw_dsub d_NE_beliefIn_110 (f_n64 (f_sub_n fF_one (bo 0 hpp.1).1)) ?_
    refine aw_dret d_NE_beliefIn_111 rfl (by decide) (by decide) ?_
    simp only [stD] at hQ; rw [if_neg (by omega), c6] at hQ; exact q_d (by first | exact (jn10 _ _ _).symm | rfl) hQ
  by_cases c7 : qk T t = 11
  · refine aw_tabN 112 (by omega) d_NE_beliefIn_8 (by rw [c7]; exact Or.inr ⟨_, by decide, by decide, rfl, by decide⟩) ?_
    have hpp := prt_pos (wq.2.1 t ht) (by omega)
    have hp2 : 10 < qk T t → 1 < prt T t := fun h => by rw [hpp.2 h]; omega
    refine aw_aload_n d_NE_beliefIn_112 rfl 0 rfl ?_
    refine aw_iload_n d_NE_beliefIn_113 rfl 1 rfl ?_
    refine aw_iconst (v := nI 1) d_NE_beliefIn_114 (by decide) ?_
    refine aw_callV (K' := k_NE_beliefOf) (As := [.int (nI (t)), .int (nI (1))]) (rest := []) (b := 22) d_NE_beliefIn_115 rfl rfl rfl cs_NE_139 rfl (Nat.le_of_ble_eq_true rfl) (Nat.le_of_ble_eq_true rfl) (by decide) (by decide) (d' := 1) (w' := 24) (by decide) (by decide) ?_
    show AW _ _ _ _ _ _ _ [(0, .ref (22)), (1, .int (nI (t))), (2, .int (nI (1)))] _ _ _ _ _
    refine A_beliefOf wq qc h0 ht hB (by omega) ?_
    refine ab_go1 ?_
    refine aw_dret d_NE_beliefIn_118 rfl (by decide) (by decide) ?_
    simp only [stD] at hQ; rw [if_neg (by omega), c7] at hQ; exact q_d (by first | exact (jn11 _ _ _).symm | rfl) hQ
  refine aw_tabN 119 (by omega) d_NE_beliefIn_8 (Or.inl ⟨by omega, by decide⟩) ?_
  refine aw_aload_n d_NE_beliefIn_119 rfl 0 rfl ?_
  refine aw_aload_n d_NE_beliefIn_120 rfl 0 rfl ?_
  refine aw_get (ic := 22) (ci := 3) (k := 2) d_NE_beliefIn_121 rfl rfl (by decide) rfl mw_125 rfl ?_
  refine aw_iload_n d_NE_beliefIn_124 rfl 1 rfl ?_
  refine aw_aaldN d_NE_beliefIn_125 rfl (by decide) (by omega) ?_
  refine aw_iload_n d_NE_beliefIn_126 rfl 2 rfl ?_
  refine aw_ialdN d_NE_beliefIn_127 (L_tf (by omega)) (by decide) (by omega) ?_
  refine aw_eqi (nI (tfT T D t d)) (hh (by omega)).1 ?_
  refine aw_aload_n d_NE_beliefIn_128 rfl 0 rfl ?_
  refine aw_get (ic := 22) (ci := 3) (k := 3) d_NE_beliefIn_129 rfl rfl (by decide) rfl mw_126 rfl ?_
  refine aw_iload_n d_NE_beliefIn_132 rfl 1 rfl ?_
  refine aw_ialdN d_NE_beliefIn_133 rfl (by decide) (by omega) ?_
  refine aw_eqi (nI (cfT T D t)) (hh (by omega)).2 ?_
  refine aw_aload_n d_NE_beliefIn_134 rfl 0 rfl ?_
  refine aw_get (ic := 22) (ci := 3) (k := 0) d_NE_beliefIn_135 rfl rfl (by decide) rfl mw_123 rfl ?_
  refine aw_iload_n d_NE_beliefIn_138 rfl 2 rfl ?_
  refine aw_callV (K' := k_TX_lengthOf) (As := [.int (nI (d))]) (rest := [.int (nI (cfT T D t)), .int (nI (tfT T D t d)), .ref (22)]) (b := 1) d_NE_beliefIn_139 rfl rfl rfl cs_NE_42 rfl (Nat.le_of_ble_eq_true rfl) (Nat.le_of_ble_eq_true rfl) (by decide) (by decide) (d' := 0) (w' := 0) (by decide) (by decide) ?_
  show AW _ _ _ _ _ _ _ [(0, .ref (1)), (1, .int (nI (d)))] _ _ _ _ _
  refine aw_aload_n d_TX_lengthOf_0 rfl 0 rfl ?_
  refine aw_get (ic := 1) (ci := 1) (k := 1) d_TX_lengthOf_1 rfl rfl (by decide) rfl mw_70 rfl ?_
  refine aw_iload_n d_TX_lengthOf_4 rfl 1 rfl ?_
  refine aw_ialdN d_TX_lengthOf_5 rfl (by decide) (by omega) ?_
  refine aw_eqi (nI (dl D d)) (dc.2.2.1 _ (by omega)) ?_
  refine aw_iret d_TX_lengthOf_6 rfl (by decide) (by decide) (ab_go1 ?_)
  refine aw_callV (K' := k_NE_smoothed) (As := [.int (nI (tfT T D t d)), .int (nI (cfT T D t)), .int (nI (dl D d))]) (rest := []) (b := 22) d_NE_beliefIn_142 rfl rfl rfl cs_NE_142 rfl (Nat.le_of_ble_eq_true rfl) (Nat.le_of_ble_eq_true rfl) (by decide) (by decide) (d' := 1) (w' := 23) (by decide) (by decide) ?_
  show AW _ _ _ _ _ _ _ [(0, .ref (22)), (1, .int (nI (tfT T D t d))), (2, .int (nI (cfT T D t))), (3, .int (nI (dl D d)))] _ _ _ _ _
  refine A_smoothed wd dc ws sc hd hl ?_
  refine ab_go1 ?_
  refine aw_dret d_NE_beliefIn_145 rfl (by decide) (by decide) ?_
  exact q_d (by simp only [stD]; rw [if_pos (by omega)]) hQ
