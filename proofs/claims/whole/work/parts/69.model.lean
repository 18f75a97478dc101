/-! MODELS of the class (rows laid by gen/m17.py) -/
def iK (x : Kg) (M : ab_M) : Prop := M.1 53 5 = nI (kn x) ∧ (∀ w, w < 16 → M.2.1 54 w = ks x w) ∧ (∀ i, i < kn x → M.1 55 i = nI (kc x i)) ∧ ∀ i, i < kn x → M.2.1 56 i = kd x i
theorem frO_refl (lo hi : Nat) (M : ab_M) : frO lo hi M M := fun _ _ _ => ⟨rfl, rfl, rfl⟩
theorem frO_trans {lo hi : Nat} {M M1 M2 : ab_M} (h : frO lo hi M M1) (k : frO lo hi M1 M2) : frO lo hi M M2 := fun a i ha => ⟨(k a i ha).1.trans (h a i ha).1, (k a i ha).2.1.trans (h a i ha).2.1, (k a i ha).2.2.trans (h a i ha).2.2⟩
theorem frM_dc {D : Dg} {M M' : ab_M} (h : frO 53 56 M M') (x : iDC D M) : iDC D M' := iDC_of x (fun a i ha => (h a i (by omega)).1)
theorem frM_qc {T : Qg} {M M' : ab_M} (h : frO 53 56 M M') (x : iQC T M) : iQC T M' := iQC_of x (fun a i h1 h2 => ⟨(h a i (by omega)).1, (h a i (by omega)).2.1⟩)
theorem frM_rc {R : Rg} {M M' : ab_M} (h : frO 53 56 M M') (x : iRC R M) : iRC R M' := iRC_of x (fun a i h1 h2 => ⟨(h a i (by omega)).1, (h a i (by omega)).2.1⟩)
def mdW (T : Qg) (x : Kg) (i : Nat) : Qg := if kn x ≤ 1 then (if i = 0 then noQ T else addQ (noQ T) 0 (kc x 0) (kd x 0)) else mdA T x i
theorem mdW_step {T : Qg} {x : Kg} {i : Nat} (h : i < kn x) : mdW T x (i + 1) = addQ (mdW T x i) 0 (kc x i) (kd x i) := by
  simp only [mdW]
  by_cases e : kn x ≤ 1
  · have : i = 0 := by omega
    subst this
    rw [if_pos e, if_pos e, if_neg (by omega), if_pos rfl]
  · rw [if_neg e, if_neg e]; rfl
theorem mdW_end {T : Qg} {x : Kg} : mdW T x (kn x) = mdT T x := by
  simp only [mdW, mdT]
  by_cases e0 : kn x = 0
  · rw [if_pos (by omega), if_pos e0, if_pos e0]
  · by_cases e1 : kn x = 1
    · rw [if_pos (show kn x ≤ 1 by omega), if_neg e0, if_neg e0, if_pos e1]
    · rw [if_neg (show ¬ kn x ≤ 1 by omega), if_neg e0, if_neg e1]
theorem mdW_ok {D : Dg} {R : Rg} (wd : wD D) (wr : wR D R) {T : Qg} {x : Kg} (h : tkOk D R x) (h4 : kn x ≤ 4) {i : Nat} (hi : i < kn x) : wQ (mdW T x i) ∧ qn (mdW T x i) < 24 ∧ op (mdW T x i) (qn (mdW T x i)) ≠ 0 := by
  simp only [mdW]
  by_cases e : kn x ≤ 1
  · have : i = 0 := by omega
    subst this
    rw [if_pos e, if_pos rfl]
    exact ⟨noQ_wf T, show (0 : Nat) < 24 by omega, show (1 : Nat) ≠ 0 by omega⟩
  · rw [if_neg e]
    obtain ⟨g1, g2, g3⟩ := mdA_ok wd wr h (by omega) h4 i (by omega) (T := T)
    have hn := mdA_n T x i
    exact ⟨g1, by omega, by rw [hn, g2]; omega⟩
theorem clr_qc {T : Qg} {M : ab_M} : iQC (noQ T) (clrC M) := by
  refine ⟨?_, fun t ht => absurd ht (by show ¬ t < 0; omega), fun t ht => absurd ht (by show ¬ t < 0; omega), fun t ht => absurd ht (by show ¬ t < 0; omega), ?_, ?_, fun h => absurd h (by show ¬ 1 = 0; omega)⟩
  · simp only [clrC]; rw [sI_ne (by omega), sI_ne (by omega), sI_hit]; rfl
  · simp only [clrC]; rw [sI_ne (by omega), sI_hit]; rfl
  · simp only [clrC]; rw [sI_hit]; rfl
theorem clr_fr (M : ab_M) : frO 17 21 M (clrC M) := fun a i ha => ⟨by simp only [clrC]; rw [sI_ne (by omega), sI_ne (by omega), sI_ne (by omega)], rfl, rfl⟩
theorem frQ_k {x : Kg} {M M' : ab_M} (h : frO 17 21 M M') (k : iK x M) : iK x M' := ⟨by rw [(h 53 5 (by omega)).1]; exact k.1, fun w hw => by rw [(h 54 w (by omega)).2.1]; exact k.2.1 w hw, fun i hi => by rw [(h 55 i (by omega)).1]; exact k.2.2.1 i hi, fun i hi => by rw [(h 56 i (by omega)).2.1]; exact k.2.2.2 i hi⟩

set_option maxRecDepth 4000 in
theorem A_sumOf_loop {l : Launch} {M : ab_M} {Q : ab_O → ab_M → Prop} {D : Dg} {R : Rg} (wd : wD D) (dc : iDC D M) (wr : wR D R) (rc : iRC R M) {w : Nat} (hw : w < 16) (hQ : Q (.inl (some (.double (wv D R w)))) M) : ∀ (mm : Nat) (k : Nat), 12 - k = mm → (hkn : k ≤ rn R) → AW sys l ab_Zt k_MK_sumOf 1 24 5 [(4, .int (nI (k))), (2, .double (woD D R w k)), (0, .ref (53)), (1, .int (nI (w)))] [] M 0 0 Q := by
  intro mm
  induction mm using Nat.strongRecOn with
  | ind mm ih =>
    intro k hk hkn
    have h12 := wd.1
    have hr12 := wr.1
    have hdk : k < rn R → rd R k < dn D := fun h => (wr.2.2 k h).1
    refine aw_iload d_MK_sumOf_5 0 rfl ?_
    refine aw_aload_n d_MK_sumOf_7 rfl 2 rfl ?_
    refine aw_get (ic := 53) (ci := 5) (k := 1) (v := .ref 50) d_MK_sumOf_8 rfl rfl (by decide) rfl mw_171 rfl ?_
    refine aw_callV (K' := k_RA_size) (As := []) (rest := [.int (nI (k))]) (b := 50) d_MK_sumOf_11 rfl rfl rfl cs_MK_50 rfl (Nat.le_of_ble_eq_true rfl) (Nat.le_of_ble_eq_true rfl) (by decide) (by decide) (d' := 0) (w' := 0) (by decide) (by decide) ?_
    show AW _ _ _ _ _ _ _ [(0, .ref (50))] _ _ _ _ _
    refine aw_aload_n d_RA_size_0 rfl 0 rfl ?_
    refine aw_get (ic := 50) (ci := 4) (k := 2) d_RA_size_1 rfl rfl (by decide) rfl mw_153 rfl ?_
    refine aw_eqi (nI (rn R)) rc.1 ?_
    refine aw_iret d_RA_size_4 rfl (by decide) (by decide) (ab_go1 ?_)
    refine aw_icmp_geN (tgt := 71) d_MK_sumOf_14 (by decide) (by omega) (by omega) (fun c1 => ?_) (fun c1 => ?_)
    · skip
      refine aw_dload_n d_MK_sumOf_71 rfl 1 rfl ?_
      refine aw_dret d_MK_sumOf_72 rfl (by decide) (by decide) ?_
      exact q_d (by rw [show k = rn R by omega]; rfl) hQ
    · skip
      refine aw_aload_n d_MK_sumOf_17 rfl 2 rfl ?_
      refine aw_get (ic := 53) (ci := 5) (k := 1) (v := .ref 50) d_MK_sumOf_18 rfl rfl (by decide) rfl mw_171 rfl ?_
      refine aw_iload d_MK_sumOf_21 0 rfl ?_
      refine aw_callV (K' := k_RA_documentAt) (As := [.int (nI (k))]) (rest := []) (b := 50) d_MK_sumOf_23 rfl rfl rfl cs_MK_55 rfl (Nat.le_of_ble_eq_true rfl) (Nat.le_of_ble_eq_true rfl) (by decide) (by decide) (d' := 0) (w' := 0) (by decide) (by decide) ?_
      show AW _ _ _ _ _ _ _ [(0, .ref (50)), (1, .int (nI (k)))] _ _ _ _ _
      refine aw_aload_n d_RA_documentAt_0 rfl 0 rfl ?_
      refine aw_get (ic := 50) (ci := 4) (k := 0) (v := .ref 51) d_RA_documentAt_1 rfl rfl (by decide) rfl mw_151 rfl ?_
      refine aw_iload_n d_RA_documentAt_4 rfl 1 rfl ?_
      refine aw_ialdN d_RA_documentAt_5 rfl (by decide) (by omega) ?_
      refine aw_eqi (nI (rd R k)) (rc.2.2.1 _ (by omega)) ?_
      refine aw_iret d_RA_documentAt_6 rfl (by decide) (by decide) (ab_go1 ?_)
      refine aw_istore (lv' := [(5, .int (nI (rd R k))), (4, .int (nI (k))), (2, .double (woD D R w k)), (0, .ref (53)), (1, .int (nI (w)))]) d_MK_sumOf_26 (by decide) rfl ?_
      refine aw_dload_n d_MK_sumOf_28 rfl 2 rfl ?_
      refine aw_aload_n d_MK_sumOf_29 rfl 3 rfl ?_
      refine aw_get (ic := 53) (ci := 5) (k := 1) (v := .ref 50) d_MK_sumOf_30 rfl rfl (by decide) rfl mw_171 rfl ?_
      refine aw_iload d_MK_sumOf_33 1 rfl ?_
      refine aw_callV (K' := k_RA_beliefAt) (As := [.int (nI (k))]) (rest := [.double (woD D R w k)]) (b := 50) d_MK_sumOf_35 rfl rfl rfl cs_MK_59 rfl (Nat.le_of_ble_eq_true rfl) (Nat.le_of_ble_eq_true rfl) (by decide) (by decide) (d' := 0) (w' := 0) (by decide) (by decide) ?_
      show AW _ _ _ _ _ _ _ [(0, .ref (50)), (1, .int (nI (k)))] _ _ _ _ _
      refine aw_aload_n d_RA_beliefAt_0 rfl 0 rfl ?_
      refine aw_get (ic := 50) (ci := 4) (k := 1) (v := .ref 52) d_RA_beliefAt_1 rfl rfl (by decide) rfl mw_152 rfl ?_
      refine aw_iload_n d_RA_beliefAt_4 rfl 1 rfl ?_
      refine aw_daldN d_RA_beliefAt_5 rfl (by decide) (by omega) ?_
      refine aw_eqd (rb R k) (rc.2.2.2 _ (by omega)) ?_
      refine aw_dret d_RA_beliefAt_6 rfl (by decide) (by decide) (ab_go1 ?_)
      refine aw_aload_n d_MK_sumOf_38 rfl 3 rfl ?_
      refine aw_get (ic := 53) (ci := 5) (k := 0) (v := .ref 1) d_MK_sumOf_39 rfl rfl (by decide) rfl mw_170 rfl ?_
      refine aw_iload_n d_MK_sumOf_42 rfl 4 rfl ?_
      refine aw_iload d_MK_sumOf_43 0 rfl ?_
      refine aw_callV (K' := k_TX_timesIn) (As := [.int (nI (w)), .int (nI (rd R k))]) (rest := [.double (rb R k), .double (woD D R w k)]) (b := 1) d_MK_sumOf_45 rfl rfl rfl cs_MK_62 rfl (Nat.le_of_ble_eq_true rfl) (Nat.le_of_ble_eq_true rfl) (by decide) (by decide) (d' := 0) (w' := 0) (by decide) (by decide) ?_
      show AW _ _ _ _ _ _ _ [(0, .ref (1)), (1, .int (nI (w))), (2, .int (nI (rd R k)))] _ _ _ _ _
      refine A_TX_timesIn wd dc (by omega) hw ?_
      refine ab_go1 ?_
      refine aw_i2d d_MK_sumOf_48 ?_
      refine aw_aload_n d_MK_sumOf_49 rfl 3 rfl ?_
      refine aw_get (ic := 53) (ci := 5) (k := 0) (v := .ref 1) d_MK_sumOf_50 rfl rfl (by decide) rfl mw_170 rfl ?_
      refine aw_iload d_MK_sumOf_53 0 rfl ?_
      refine aw_callV (K' := k_TX_lengthOf) (As := [.int (nI (rd R k))]) (rest := [.double (FP.i2d (nI (cn (fw D (rd R k) w) (dl D (rd R k))))), .double (rb R k), .double (woD D R w k)]) (b := 1) d_MK_sumOf_55 rfl rfl rfl cs_MK_68 rfl (Nat.le_of_ble_eq_true rfl) (Nat.le_of_ble_eq_true rfl) (by decide) (by decide) (d' := 0) (w' := 0) (by decide) (by decide) ?_
      show AW _ _ _ _ _ _ _ [(0, .ref (1)), (1, .int (nI (rd R k)))] _ _ _ _ _
      refine aw_aload_n d_TX_lengthOf_0 rfl 0 rfl ?_
      refine aw_get (ic := 1) (ci := 1) (k := 1) (v := .ref 15) d_TX_lengthOf_1 rfl rfl (by decide) rfl mw_70 rfl ?_
      refine aw_iload_n d_TX_lengthOf_4 rfl 1 rfl ?_
      refine aw_ialdN d_TX_lengthOf_5 rfl (by decide) (by omega) ?_
      refine aw_eqi (nI (dl D (rd R k))) (dc.2.2.1 _ (by omega)) ?_
      refine aw_iret d_TX_lengthOf_6 rfl (by decide) (by decide) (ab_go1 ?_)
      refine aw_i2d d_MK_sumOf_58 ?_
      refine aw_callSN (K' := k_BF_ratio) (As := [.double (FP.i2d (nI (cn (fw D (rd R k) w) (dl D (rd R k))))), .double (FP.i2d (nI (dl D (rd R k))))]) (rest := [.double (rb R k), .double (woD D R w k)]) d_MK_sumOf_59 wn_MK_71 cs_MK_71 rfl (Nat.le_of_ble_eq_true rfl) (Nat.le_of_ble_eq_true rfl) (by decide) (by decide) (d' := 0) (w' := 0) (by decide) (by decide) ?_
      show AW _ _ _ _ _ _ _ [(0, .double (FP.i2d (nI (cn (fw D (rd R k) w) (dl D (rd R k)))))), (2, .double (FP.i2d (nI (dl D (rd R k)))))] _ _ _ _ _
      refine A_ratio (fF_i _) (fF_i _) (rtW_ok wd wr w (by omega)).2 ?_
      show ab_ret _ (.inl (some (.double (rtW D R w k)))) _
      refine ab_go1 ?_
      refine aw_dmul d_MK_sumOf_62 (f_n64 (f_mul_n (wr.2.2 k (by omega)).2.2.1 (rtW_ok wd wr w (by omega)).1.1)) ?_
      refine aw_eqd (tmD D R w k) rfl ?_
      refine aw_dadd d_MK_sumOf_63 (f_n64 (f_add_n (woD_ok wd wr w k (by omega)).1 (tmD_ok wd wr w (by omega)).1)) ?_
      refine aw_eqd (woD D R w (k + 1)) rfl ?_
      refine aw_dstore_n (lv' := [(2, .double (woD D R w (k + 1))), (5, .int (nI (rd R k))), (4, .int (nI (k))), (0, .ref (53)), (1, .int (nI (w)))]) d_MK_sumOf_64 rfl (by decide) rfl ?_
      refine aw_iinc (v := (nI (k + 1))) (lv' := [(4, .int (nI (k + 1))), (2, .double (woD D R w (k + 1))), (5, .int (nI (rd R k))), (0, .ref (53)), (1, .int (nI (w)))]) d_MK_sumOf_65 (j := 2) rfl (nI_add (k) 1) (by decide) rfl ?_
      refine aw_goto (tgt := 5) d_MK_sumOf_68 (by decide) ?_
      refine aw_pick [0, 1, 3, 4] rfl ?_
      exact ih _ (by omega) (k + 1) rfl (by omega)
set_option maxRecDepth 4000 in
theorem A_sumOf {l : Launch} {M : ab_M} {Q : ab_O → ab_M → Prop} {D : Dg} {R : Rg} (wd : wD D) (dc : iDC D M) (wr : wR D R) (rc : iRC R M) {w : Nat} (hw : w < 16) (hQ : Q (.inl (some (.double (wv D R w)))) M) : AW sys l ab_Zt k_MK_sumOf 1 24 0 [(0, .ref (53)), (1, .int (nI (w)))] [] M 0 0 Q := by
  refine aw_dconst0 d_MK_sumOf_0 ?_
  refine aw_dstore_n (lv' := [(2, .double (FP.dconst0)), (0, .ref (53)), (1, .int (nI (w)))]) d_MK_sumOf_1 rfl (by decide) rfl ?_
  refine aw_iconst (v := nI 0) d_MK_sumOf_2 (by decide) ?_
  refine aw_istore (lv' := [(4, .int (nI (0))), (2, .double (FP.dconst0)), (0, .ref (53)), (1, .int (nI (w)))]) d_MK_sumOf_3 (by decide) rfl ?_
  exact A_sumOf_loop wd dc wr rc hw hQ _ 0 rfl (by omega)
set_option maxRecDepth 4000 in
theorem A_take_loop {l : Launch} {M : ab_M} {Q : ab_O → ab_M → Prop} {x : Kg} (kx : iK x M) (hf9 : ∀ w, w < 16 → fF (ks x w)) (hk4 : kn x < 4) (hQ : ∀ M', iK (tkStep x) M' → frO 53 56 M M' → Q (.inl none) M') : ∀ (mm : Nat) (w : Nat), 16 - w = mm → (hw1 : 1 ≤ w) → (hw : w ≤ 16) → AW sys l ab_Zt k_MK_takeGreatest 0 0 4 [(2, .int (nI (w))), (1, .int (nI (gm (ks x) w))), (0, .ref (53))] [] M 0 0 Q := by
  intro mm
  induction mm using Nat.strongRecOn with
  | ind mm ih =>
    intro w hk hw1 hw
    have hg : gm (ks x) w < 16 := by obtain ⟨z, rfl⟩ : ∃ z, w = z + 1 := ⟨w - 1, by omega⟩; have := gm_lt (ks x) z; omega
    refine aw_iload_n d_MK_takeGreatest_4 rfl 0 rfl ?_
    refine aw_bipush (v := nI 16) d_MK_takeGreatest_5 (by decide) ?_
    refine aw_icmp_geN (tgt := 38) d_MK_takeGreatest_7 (by decide) (by omega) (by omega) (fun c1 => ?_) (fun c1 => ?_)
    · skip
      refine aw_aload_n d_MK_takeGreatest_38 rfl 2 rfl ?_
      refine aw_get (ic := 53) (ci := 5) (k := 2) (v := .ref 54) d_MK_takeGreatest_39 rfl rfl (by decide) rfl mw_172 rfl ?_
      refine aw_iload_n d_MK_takeGreatest_42 rfl 1 rfl ?_
      refine aw_daldN d_MK_takeGreatest_43 rfl (by decide) (by omega) ?_
      refine aw_eqd (ks x (gm (ks x) w)) (kx.2.1 _ (by omega)) ?_
      refine aw_dconst0 d_MK_takeGreatest_44 ?_
      refine aw_dcmp d_MK_takeGreatest_45 ?_
      refine ad_le (hf9 _ (by omega)).n fF_zero.n d_MK_takeGreatest_46 (tgt := 91) (by decide) (fun c2 => ?_) (fun c2 => ?_)
      · skip
        refine aw_vret d_MK_takeGreatest_91 rfl (by decide) (by decide) ?_
        have ew : w = 16 := by omega
        subst ew
        rw [fz_zero] at c2
        exact hQ _ (by simp only [tkStep]; rw [if_neg (by omega)]; exact kx) (frO_refl _ _ _)
      · skip
        refine aw_aload_n d_MK_takeGreatest_49 rfl 2 rfl ?_
        refine aw_get (ic := 53) (ci := 5) (k := 3) (v := .ref 55) d_MK_takeGreatest_50 rfl rfl (by decide) rfl mw_173 rfl ?_
        refine aw_aload_n d_MK_takeGreatest_53 rfl 2 rfl ?_
        refine aw_get (ic := 53) (ci := 5) (k := 5) d_MK_takeGreatest_54 rfl rfl (by decide) rfl mw_175 rfl ?_
        refine aw_eqi (nI (kn x)) kx.1 ?_
        refine aw_iload_n d_MK_takeGreatest_57 rfl 1 rfl ?_
        refine aw_iastN d_MK_takeGreatest_58 rfl (by decide) (by omega) ?_
        refine aw_aload_n d_MK_takeGreatest_59 rfl 2 rfl ?_
        refine aw_get (ic := 53) (ci := 5) (k := 4) (v := .ref 56) d_MK_takeGreatest_60 rfl rfl (by decide) rfl mw_174 rfl ?_
        refine aw_aload_n d_MK_takeGreatest_63 rfl 2 rfl ?_
        refine aw_get (ic := 53) (ci := 5) (k := 5) d_MK_takeGreatest_64 rfl rfl (by decide) rfl mw_175 rfl ?_
        refine aw_eqi (nI (kn x)) (by rw [sI_ne (by omega)]; exact kx.1) ?_
        refine aw_aload_n d_MK_takeGreatest_67 rfl 2 rfl ?_
        refine aw_get (ic := 53) (ci := 5) (k := 2) (v := .ref 54) d_MK_takeGreatest_68 rfl rfl (by decide) rfl mw_172 rfl ?_
        refine aw_iload_n d_MK_takeGreatest_71 rfl 1 rfl ?_
        refine aw_daldN d_MK_takeGreatest_72 rfl (by decide) (by omega) ?_
        refine aw_eqd (ks x (gm (ks x) w)) (kx.2.1 _ (by omega)) ?_
        refine aw_dastN d_MK_takeGreatest_73 rfl (by decide) (by omega) ?_
        refine aw_aload_n d_MK_takeGreatest_74 rfl 2 rfl ?_
        refine aw_dup d_MK_takeGreatest_75 rfl ?_
        refine aw_get (ic := 53) (ci := 5) (k := 5) d_MK_takeGreatest_76 rfl rfl (by decide) rfl mw_175 rfl ?_
        refine aw_eqi (nI (kn x)) (by simp only [sD_1]; rw [sI_ne (by omega)]; exact kx.1) ?_
        refine aw_iconst (v := nI 1) d_MK_takeGreatest_79 (by decide) ?_
        refine aw_iaddN d_MK_takeGreatest_80 ?_
        refine aw_putI (ic := 53) (ci := 5) (k := 5) d_MK_takeGreatest_81 rfl rfl (by decide) rfl rfl rfl mw_175 ?_
        refine aw_aload_n d_MK_takeGreatest_84 rfl 2 rfl ?_
        refine aw_get (ic := 53) (ci := 5) (k := 2) (v := .ref 54) d_MK_takeGreatest_85 rfl rfl (by decide) rfl mw_172 rfl ?_
        refine aw_iload_n d_MK_takeGreatest_88 rfl 1 rfl ?_
        refine aw_dconst0 d_MK_takeGreatest_89 ?_
        refine aw_dastN d_MK_takeGreatest_90 rfl (by decide) (by omega) ?_
        refine aw_vret d_MK_takeGreatest_91 rfl (by decide) (by decide) ?_
        have ew : w = 16 := by omega
        subst ew
        rw [fz_zero] at c2
        refine hQ _ ?_ (fun a i ha => ⟨?_, ?_, rfl⟩)
        · simp only [tkStep]
          rw [if_pos c2]
          refine ⟨?_, fun v hv => ?_, fun i hi => ?_, fun i hi => ?_⟩
          · simp only [sD_1]; rw [sI_hit]; rfl
          · show _ = upN (ks x) (gm (ks x) 16) FP.dconst0 v
            by_cases e : v = gm (ks x) 16
            · rw [e, up_hit, sD_hit]
            · rw [up_ne e, sD_ne (by omega), sI_2, sD_ne (by omega), sI_2]; exact kx.2.1 v hv
          · have hi' : i < kn x + 1 := hi
            show _ = nI (upN (kc x) (kn x) (gm (ks x) 16) i)
            simp only [sD_1]
            rw [sI_ne (by omega)]
            by_cases e : i = kn x
            · rw [e, up_hit]; simp only [sD_1]; rw [sI_hit]
            · rw [up_ne e]; simp only [sD_1]; rw [sI_ne (by omega)]; exact kx.2.2.1 i (by omega)
          · have hi' : i < kn x + 1 := hi
            show _ = upN (kd x) (kn x) (ks x (gm (ks x) 16)) i
            rw [sD_ne (by omega), sI_2]
            by_cases e : i = kn x
            · rw [e, up_hit, sD_hit]
            · rw [up_ne e, sD_ne (by omega), sI_2]; exact kx.2.2.2 i (by omega)
        · simp only [sD_1]; rw [sI_ne (by omega)]; simp only [sD_1]; rw [sI_ne (by omega)]
        · rw [sD_ne (by omega), sI_2, sD_ne (by omega), sI_2]
    · skip
      refine aw_aload_n d_MK_takeGreatest_10 rfl 2 rfl ?_
      refine aw_get (ic := 53) (ci := 5) (k := 2) (v := .ref 54) d_MK_takeGreatest_11 rfl rfl (by decide) rfl mw_172 rfl ?_
      refine aw_iload_n d_MK_takeGreatest_14 rfl 0 rfl ?_
      refine aw_daldN d_MK_takeGreatest_15 rfl (by decide) (by omega) ?_
      refine aw_eqd (ks x w) (kx.2.1 _ (by omega)) ?_
      refine aw_aload_n d_MK_takeGreatest_16 rfl 2 rfl ?_
      refine aw_get (ic := 53) (ci := 5) (k := 2) (v := .ref 54) d_MK_takeGreatest_17 rfl rfl (by decide) rfl mw_172 rfl ?_
      refine aw_iload_n d_MK_takeGreatest_20 rfl 1 rfl ?_
      refine aw_daldN d_MK_takeGreatest_21 rfl (by decide) (by omega) ?_
      refine aw_eqd (ks x (gm (ks x) w)) (kx.2.1 _ (by omega)) ?_
      refine aw_dcmp d_MK_takeGreatest_22 ?_
      refine ad_le (hf9 _ (by omega)).n (hf9 _ (by omega)).n d_MK_takeGreatest_23 (tgt := 30) (by decide) (fun c3 => ?_) (fun c3 => ?_)
      · skip
        refine aw_iload_n d_MK_takeGreatest_30 rfl 1 rfl ?_
        refine aw_istore_n (lv' := [(1, .int (nI (gm (ks x) w))), (2, .int (nI (w))), (0, .ref (53))]) d_MK_takeGreatest_31 rfl (by decide) rfl ?_
        refine aw_iinc (v := (nI (w + 1))) (lv' := [(2, .int (nI (w + 1))), (1, .int (nI (gm (ks x) w))), (0, .ref (53))]) d_MK_takeGreatest_32 (j := 1) rfl (nI_add (w) 1) (by decide) rfl ?_
        refine aw_goto (tgt := 4) d_MK_takeGreatest_35 (by decide) ?_
        rw [show nI (gm (ks x) w) = nI (gm (ks x) (w + 1)) by congr 1; show _ = (if _ then _ else _); rw [if_neg (by omega)]]
        exact ih _ (by omega) (w + 1) rfl (by omega) (by omega)
      · skip
        refine aw_iload_n d_MK_takeGreatest_26 rfl 0 rfl ?_
        refine aw_goto (tgt := 31) d_MK_takeGreatest_27 (by decide) ?_
        refine aw_istore_n (lv' := [(1, .int (nI (w))), (2, .int (nI (w))), (0, .ref (53))]) d_MK_takeGreatest_31 rfl (by decide) rfl ?_
        refine aw_iinc (v := (nI (w + 1))) (lv' := [(2, .int (nI (w + 1))), (1, .int (nI (w))), (0, .ref (53))]) d_MK_takeGreatest_32 (j := 1) rfl (nI_add (w) 1) (by decide) rfl ?_
        refine aw_goto (tgt := 4) d_MK_takeGreatest_35 (by decide) ?_
        rw [show nI (w) = nI (gm (ks x) (w + 1)) by congr 1; show _ = (if _ then _ else _); rw [if_pos (by omega)]]
        exact ih _ (by omega) (w + 1) rfl (by omega) (by omega)
set_option maxRecDepth 4000 in
theorem A_take {l : Launch} {M : ab_M} {Q : ab_O → ab_M → Prop} {x : Kg} (kx : iK x M) (hf9 : ∀ w, w < 16 → fF (ks x w)) (hk4 : kn x < 4) (hQ : ∀ M', iK (tkStep x) M' → frO 53 56 M M' → Q (.inl none) M') : AW sys l ab_Zt k_MK_takeGreatest 0 0 0 [(0, .ref (53))] [] M 0 0 Q := by
  refine aw_iconst (v := nI 0) d_MK_takeGreatest_0 (by decide) ?_
  refine aw_istore_n (lv' := [(1, .int (nI (0))), (0, .ref (53))]) d_MK_takeGreatest_1 rfl (by decide) rfl ?_
  refine aw_iconst (v := nI 1) d_MK_takeGreatest_2 (by decide) ?_
  refine aw_istore_n (lv' := [(2, .int (nI (1))), (1, .int (nI (0))), (0, .ref (53))]) d_MK_takeGreatest_3 rfl (by decide) rfl ?_
  rw [show nI 0 = nI (gm (ks x) 1) by rw [gm_1]]
  exact A_take_loop kx hf9 hk4 hQ _ 1 rfl (by omega) (by omega)
set_option maxRecDepth 4000 in
theorem A_choose_l2 {l : Launch} {M : ab_M} {Q : ab_O → ab_M → Prop} {D : Dg} {R : Rg} (wd : wD D) (dc : iDC D M) (wr : wR D R) (rc : iRC R M) {n : Nat} (hn4 : n ≤ 4) (hQ : ∀ M', iK (tkN D R n) M' → frO 53 56 M M' → Q (.inl none) M') : ∀ (mm : Nat) (i : Nat) (M1 : ab_M), 5 - i = mm → (hi : i ≤ n) → (hf : frO 53 56 M M1) → (kx : iK (tkN D R i) M1) → AW sys l ab_Zt k_MK_choose 2 49 32 [(2, .int (nI (i))), (0, .ref (53)), (1, .int (nI (n)))] [] M1 0 0 Q := by
  intro mm
  induction mm using Nat.strongRecOn with
  | ind mm ih =>
    intro i M1 hk hi hf kx
    have hok := tkN_ok D R i
    refine aw_iload_n d_MK_choose_32 rfl 0 rfl ?_
    refine aw_iload_n d_MK_choose_33 rfl 2 rfl ?_
    refine aw_icmp_geN (tgt := 47) d_MK_choose_34 (by decide) (by omega) (by omega) (fun c1 => ?_) (fun c1 => ?_)
    · skip
      refine aw_vret d_MK_choose_47 rfl (by decide) (by decide) ?_
      exact hQ _ (by rw [show n = i by omega]; exact kx) hf
    · skip
      refine aw_aload_n d_MK_choose_37 rfl 1 rfl ?_
      refine aw_callV (K' := k_MK_takeGreatest) (As := []) (rest := []) (b := 53) d_MK_choose_38 rfl rfl rfl cs_MK_38 rfl (Nat.le_of_ble_eq_true rfl) (Nat.le_of_ble_eq_true rfl) (by decide) (by decide) (d' := 0) (w' := 0) (by decide) (by decide) ?_
      show AW _ _ _ _ _ _ _ [(0, .ref (53))] _ _ _ _ _
      refine A_take kx (fun w hw => by rw [hok.1.1]; split; exact fF_zero; exact (wv_ok wd wr w).1) (by omega) (fun M2 k2 f2 => ?_)
      refine ab_go0 ?_
      refine aw_iinc (v := (nI (i + 1))) (lv' := [(2, .int (nI (i + 1))), (0, .ref (53)), (1, .int (nI (n)))]) d_MK_choose_41 (j := 0) rfl (nI_add (i) 1) (by decide) rfl ?_
      refine aw_goto (tgt := 32) d_MK_choose_44 (by decide) ?_
      exact ih _ (by omega) (i + 1) M2 rfl (by omega) (frO_trans hf f2) k2
set_option maxRecDepth 4000 in
theorem A_choose_l1 {l : Launch} {M : ab_M} {Q : ab_O → ab_M → Prop} {D : Dg} {R : Rg} (wd : wD D) (dc : iDC D M) (wr : wR D R) (rc : iRC R M) {n : Nat} (hn4 : n ≤ 4) (hQ : ∀ M', iK (tkN D R n) M' → frO 53 56 M M' → Q (.inl none) M') : ∀ (mm : Nat) (w : Nat) (M1 : ab_M), 16 - w = mm → (hw : w ≤ 16) → (hf : frO 53 56 M M1) → (hs : ∀ v, v < w → M1.2.1 54 v = wv D R v) → AW sys l ab_Zt k_MK_choose 2 49 2 [(2, .int (nI (w))), (0, .ref (53)), (1, .int (nI (n)))] [] M1 0 0 Q := by
  intro mm
  induction mm using Nat.strongRecOn with
  | ind mm ih =>
    intro w M1 hk hw hf hs
    refine aw_iload_n d_MK_choose_2 rfl 0 rfl ?_
    refine aw_bipush (v := nI 16) d_MK_choose_3 (by decide) ?_
    refine aw_icmp_geN (tgt := 25) d_MK_choose_5 (by decide) (by omega) (by omega) (fun c1 => ?_) (fun c1 => ?_)
    · skip
      refine aw_aload_n d_MK_choose_25 rfl 1 rfl ?_
      refine aw_iconst (v := nI 0) d_MK_choose_26 (by decide) ?_
      refine aw_putI (ic := 53) (ci := 5) (k := 5) d_MK_choose_27 rfl rfl (by decide) rfl rfl rfl mw_175 ?_
      refine aw_iconst (v := nI 0) d_MK_choose_30 (by decide) ?_
      refine aw_istore_n (lv' := [(2, .int (nI (0))), (0, .ref (53)), (1, .int (nI (n)))]) d_MK_choose_31 rfl (by decide) rfl ?_
      exact A_choose_l2 wd dc wr rc hn4 hQ _ 0 _ rfl (by omega) (fun a i ha => ⟨by rw [sI_ne (by omega)]; exact (hf a i ha).1, (hf a i ha).2.1, (hf a i ha).2.2⟩) ⟨sI_hit _ _ _ _, fun v hv => hs v (by omega), fun i hi => absurd hi (by show ¬ i < 0; omega), fun i hi => absurd hi (by show ¬ i < 0; omega)⟩
    · skip
      refine aw_aload_n d_MK_choose_8 rfl 1 rfl ?_
      refine aw_get (ic := 53) (ci := 5) (k := 2) (v := .ref 54) d_MK_choose_9 rfl rfl (by decide) rfl mw_172 rfl ?_
      refine aw_iload_n d_MK_choose_12 rfl 0 rfl ?_
      refine aw_aload_n d_MK_choose_13 rfl 1 rfl ?_
      refine aw_iload_n d_MK_choose_14 rfl 0 rfl ?_
      refine aw_callV (K' := k_MK_sumOf) (As := [.int (nI (w))]) (rest := [.int (nI (w)), .ref (54)]) (b := 53) d_MK_choose_15 rfl rfl rfl cs_MK_34 rfl (Nat.le_of_ble_eq_true rfl) (Nat.le_of_ble_eq_true rfl) (by decide) (by decide) (d' := 1) (w' := 24) (by decide) (by decide) ?_
      show AW _ _ _ _ _ _ _ [(0, .ref (53)), (1, .int (nI (w)))] _ _ _ _ _
      refine A_sumOf wd (frM_dc hf dc) wr (frM_rc hf rc) (by omega) ?_
      refine ab_go1 ?_
      refine aw_dastN d_MK_choose_18 rfl (by decide) (by omega) ?_
      refine aw_iinc (v := (nI (w + 1))) (lv' := [(2, .int (nI (w + 1))), (0, .ref (53)), (1, .int (nI (n)))]) d_MK_choose_19 (j := 0) rfl (nI_add (w) 1) (by decide) rfl ?_
      refine aw_goto (tgt := 2) d_MK_choose_22 (by decide) ?_
      exact ih _ (by omega) (w + 1) (ab_sD M1 (54) (w) (wv D R w)) rfl (by omega) (fun a i ha => ⟨(hf a i ha).1, by rw [sD_ne (by omega)]; exact (hf a i ha).2.1, (hf a i ha).2.2⟩) (fun v hv => by rcases Nat.eq_or_lt_of_le (Nat.le_of_lt_succ hv) with e | e; rw [e, sD_hit]; rw [sD_ne (by omega)]; exact hs v e)
set_option maxRecDepth 4000 in
theorem A_choose {l : Launch} {M : ab_M} {Q : ab_O → ab_M → Prop} {D : Dg} {R : Rg} (wd : wD D) (dc : iDC D M) (wr : wR D R) (rc : iRC R M) {n : Nat} (hn4 : n ≤ 4) (hQ : ∀ M', iK (tkN D R n) M' → frO 53 56 M M' → Q (.inl none) M') : AW sys l ab_Zt k_MK_choose 2 49 0 [(0, .ref (53)), (1, .int (nI (n)))] [] M 0 0 Q := by
  refine aw_iconst (v := nI 0) d_MK_choose_0 (by decide) ?_
  refine aw_istore_n (lv' := [(2, .int (nI (0))), (0, .ref (53)), (1, .int (nI (n)))]) d_MK_choose_1 rfl (by decide) rfl ?_
  exact A_choose_l1 wd dc wr rc hn4 hQ _ 0 M rfl (by omega) (frO_refl _ _ _) (fun v hv => by omega)
set_option maxRecDepth 4000 in
theorem A_write_loop {l : Launch} {M : ab_M} {Q : ab_O → ab_M → Prop} {D : Dg} {R : Rg} {T : Qg} {x : Kg} (wd : wD D) (wr : wR D R) (hx : tkOk D R x) (hk4 : kn x ≤ 4) (kx : iK x M) (hQ : ∀ M', iQC (mdT T x) M' → frO 17 21 M M' → Q (.inl none) M') : ∀ (mm : Nat) (i : Nat) (M1 : ab_M), 5 - i = mm → (hi : i ≤ kn x) → (hf : frO 17 21 M M1) → (hq : iQC (mdW T x i) M1) → AW sys l ab_Zt k_MK_write 3 70 26 [(2, .int (nI (i))), (0, .ref (53)), (1, .ref (17))] [] M1 0 0 Q := by
  intro mm
  induction mm using Nat.strongRecOn with
  | ind mm ih =>
    intro i M1 hk hi hf hq
    refine aw_iload_n d_MK_write_26 rfl 0 rfl ?_
    refine aw_aload_n d_MK_write_27 rfl 1 rfl ?_
    refine aw_get (ic := 53) (ci := 5) (k := 5) d_MK_write_28 rfl rfl (by decide) rfl mw_175 rfl ?_
    refine aw_eqi (nI (kn x)) (frQ_k hf kx).1 ?_
    refine aw_icmp_geN (tgt := 58) d_MK_write_31 (by decide) (by omega) (by omega) (fun c1 => ?_) (fun c1 => ?_)
    · skip
      refine aw_vret d_MK_write_58 rfl (by decide) (by decide) ?_
      exact hQ _ (by rw [← mdW_end, show kn x = i by omega]; exact hq) hf
    · skip
      refine aw_aload_n d_MK_write_34 rfl 2 rfl ?_
      refine aw_iconst (v := nI 0) d_MK_write_35 (by decide) ?_
      refine aw_aload_n d_MK_write_36 rfl 1 rfl ?_
      refine aw_get (ic := 53) (ci := 5) (k := 3) (v := .ref 55) d_MK_write_37 rfl rfl (by decide) rfl mw_173 rfl ?_
      refine aw_iload_n d_MK_write_40 rfl 0 rfl ?_
      refine aw_ialdN d_MK_write_41 rfl (by decide) (by omega) ?_
      refine aw_eqi (nI (kc x i)) ((frQ_k hf kx).2.2.1 i (by omega)) ?_
      refine aw_aload_n d_MK_write_42 rfl 1 rfl ?_
      refine aw_get (ic := 53) (ci := 5) (k := 4) (v := .ref 56) d_MK_write_43 rfl rfl (by decide) rfl mw_174 rfl ?_
      refine aw_iload_n d_MK_write_46 rfl 0 rfl ?_
      refine aw_daldN d_MK_write_47 rfl (by decide) (by omega) ?_
      refine aw_eqd (kd x i) ((frQ_k hf kx).2.2.2 i (by omega)) ?_
      refine aw_callV (K' := k_QU_append) (As := [.int (nI (0)), .int (nI (kc x i)), .double (kd x i)]) (rest := []) (b := 17) d_MK_write_48 rfl rfl rfl cs_MK_46 rfl (Nat.le_of_ble_eq_true rfl) (Nat.le_of_ble_eq_true rfl) (by decide) (by decide) (d' := 2) (w' := 45) (by decide) (by decide) ?_
      show AW _ _ _ _ _ _ _ [(0, .ref (17)), (1, .int (nI (0))), (2, .int (nI (kc x i))), (3, .double (kd x i))] _ _ _ _ _
      refine A_append (mdW_ok wd wr hx hk4 (by omega)).1 hq (mdW_ok wd wr hx hk4 (by omega)).2.1 (mdW_ok wd wr hx hk4 (by omega)).2.2 (term_g wd wr hx (by omega)) (fun _ => rfl) (fun M2 q2 f2 => ?_)
      refine ab_go1 ?_
      refine aw_pop d_MK_write_51 rfl ?_
      refine aw_iinc (v := (nI (i + 1))) (lv' := [(2, .int (nI (i + 1))), (0, .ref (53)), (1, .ref (17))]) d_MK_write_52 (j := 0) rfl (nI_add (i) 1) (by decide) rfl ?_
      refine aw_goto (tgt := 26) d_MK_write_55 (by decide) ?_
      exact ih _ (by omega) (i + 1) M2 rfl (by omega) (frO_trans hf f2) (by rw [mdW_step (by omega)]; exact q2)
set_option maxRecDepth 4000 in
theorem A_write {l : Launch} {M : ab_M} {Q : ab_O → ab_M → Prop} {D : Dg} {R : Rg} {T : Qg} {x : Kg} (wd : wD D) (wr : wR D R) (hx : tkOk D R x) (hk4 : kn x ≤ 4) (kx : iK x M) (hQ : ∀ M', iQC (mdT T x) M' → frO 17 21 M M' → Q (.inl none) M') : AW sys l ab_Zt k_MK_write 3 70 0 [(0, .ref (53)), (1, .ref (17))] [] M 0 0 Q := by
  refine aw_aload_n d_MK_write_0 rfl 1 rfl ?_
  refine aw_callV (K' := k_QU_empty) (As := []) (rest := []) (b := 17) d_MK_write_1 rfl rfl rfl cs_MK_41 rfl (Nat.le_of_ble_eq_true rfl) (Nat.le_of_ble_eq_true rfl) (by decide) (by decide) (d' := 0) (w' := 0) (by decide) (by decide) ?_
  show AW _ _ _ _ _ _ _ [(0, .ref (17))] _ _ _ _ _
  refine aw_aload_n d_QU_empty_0 rfl 0 rfl ?_
  refine aw_iconst (v := nI 0) d_QU_empty_1 (by decide) ?_
  refine aw_putI (ic := 17) (ci := 2) (k := 4) d_QU_empty_2 rfl rfl (by decide) rfl rfl rfl mw_96 ?_
  refine aw_aload_n d_QU_empty_5 rfl 0 rfl ?_
  refine aw_iconst (v := nI 1) d_QU_empty_6 (by decide) ?_
  refine aw_putI (ic := 17) (ci := 2) (k := 5) d_QU_empty_7 rfl rfl (by decide) rfl rfl rfl mw_97 ?_
  refine aw_aload_n d_QU_empty_10 rfl 0 rfl ?_
  refine aw_iconst (v := nI 0) d_QU_empty_11 (by decide) ?_
  refine aw_putI (ic := 17) (ci := 2) (k := 6) d_QU_empty_12 rfl rfl (by decide) rfl rfl rfl mw_98 ?_
  refine aw_vret d_QU_empty_15 rfl (by decide) (by decide) (ab_go0 ?_)
  refine aw_aload_n d_MK_write_4 rfl 0 rfl ?_
  refine aw_get (ic := 53) (ci := 5) (k := 5) d_MK_write_5 rfl rfl (by decide) rfl mw_175 rfl ?_
  refine aw_eqi (nI (kn x)) (frQ_k (clr_fr M) kx).1 ?_
  refine aw_iconst (v := nI 1) d_MK_write_8 (by decide) ?_
  refine aw_icmp_leN (tgt := 24) d_MK_write_9 (by decide) (by omega) (by omega) (fun c1 => ?_) (fun c1 => ?_)
  · skip
    refine aw_iconst (v := nI 0) d_MK_write_24 (by decide) ?_
    refine aw_istore_n (lv' := [(2, .int (nI (0))), (0, .ref (53)), (1, .ref (17))]) d_MK_write_25 rfl (by decide) rfl ?_
    exact A_write_loop wd wr hx hk4 kx hQ _ 0 _ rfl (by omega) (clr_fr M) (by simp only [mdW]; rw [if_pos (by omega), if_pos trivial]; exact clr_qc)
  · skip
    refine aw_aload_n d_MK_write_12 rfl 1 rfl ?_
    refine aw_bipush (v := nI 9) d_MK_write_13 (by decide) ?_
    refine aw_aload_n d_MK_write_15 rfl 0 rfl ?_
    refine aw_get (ic := 53) (ci := 5) (k := 5) d_MK_write_16 rfl rfl (by decide) rfl mw_175 rfl ?_
    refine aw_eqi (nI (kn x)) (frQ_k (clr_fr M) kx).1 ?_
    refine aw_dconst1 d_MK_write_19 ?_
    refine aw_callV (K' := k_QU_append) (As := [.int (nI (9)), .int (nI (kn x)), .double (FP.dconst1)]) (rest := []) (b := 17) d_MK_write_20 rfl rfl rfl cs_MK_46 rfl (Nat.le_of_ble_eq_true rfl) (Nat.le_of_ble_eq_true rfl) (by decide) (by decide) (d' := 2) (w' := 45) (by decide) (by decide) ?_
    show AW _ _ _ _ _ _ _ [(0, .ref (17)), (1, .int (nI (9))), (2, .int (nI (kn x))), (3, .double (FP.dconst1))] _ _ _ _ _
    refine A_append (T := noQ T) (noQ_wf T) clr_qc (show (0 : Nat) < 24 by omega) (show (1 : Nat) ≠ 0 by omega) (point_g (by omega) hk4) (fun h => absurd h (by show ¬ 0 < 0; omega)) (fun M2 q2 f2 => ?_)
    refine ab_go1 ?_
    refine aw_pop d_MK_write_23 rfl ?_
    refine aw_iconst (v := nI 0) d_MK_write_24 (by decide) ?_
    refine aw_istore_n (lv' := [(2, .int (nI (0))), (0, .ref (53)), (1, .ref (17))]) d_MK_write_25 rfl (by decide) rfl ?_
    exact A_write_loop wd wr hx hk4 kx hQ _ 0 _ rfl (by omega) (frO_trans (clr_fr M) f2) (by simp only [mdW]; rw [if_neg (by omega)]; exact q2)
set_option maxRecDepth 4000 in
theorem C_model_bad {l : Launch} {M : ab_M} {Q : ab_O → ab_M → Prop} (hl : l.stackTraces = false) {x : Int32} (hb : x.toInt < 1 ∨ 4 < x.toInt) (hQ : Q (.inr "java/lang/IllegalArgumentException") M) : AW sys l ab_Zt k_BF_model 6 92 0 [(0, .ref (0)), (1, .int (x))] [] M 0 0 Q := by
  refine aw_iload_n d_BF_model_0 rfl 1 rfl ?_
  refine aw_iconst (v := nI 1) d_BF_model_1 (by decide) ?_
  refine at_lt rfl (nI_toInt (by omega)) (tgt := 10) d_BF_model_2 (by decide) (fun c1 => ?_) (fun c1 => ?_)
  · skip
    refine th_IAE hl rfl d_BF_model_10 d_BF_model_13 d_BF_model_14 d_BF_model_16 d_BF_model_19 (List.mem_of_getElem? (i := 17) rfl) rfl (by decide) (by decide) (by decide) (by decide) ?_
    first | exact hQ | (exfalso; omega)
  · skip
    refine aw_iload_n d_BF_model_5 rfl 1 rfl ?_
    refine aw_iconst (v := nI 4) d_BF_model_6 (by decide) ?_
    refine at_le rfl (nI_toInt (by omega)) (tgt := 20) d_BF_model_7 (by decide) (fun c2 => ?_) (fun c2 => ?_)
    · skip
      exfalso; omega
    · skip
      refine th_IAE hl rfl d_BF_model_10 d_BF_model_13 d_BF_model_14 d_BF_model_16 d_BF_model_19 (List.mem_of_getElem? (i := 17) rfl) rfl (by decide) (by decide) (by decide) (by decide) ?_
      first | exact hQ | (exfalso; omega)
set_option maxRecDepth 4000 in
theorem C_model {l : Launch} {M : ab_M} {Q : ab_O → ab_M → Prop} (hl : l.stackTraces = false) {D : Dg} {R : Rg} (wd : wD D) (dc : iDC D M) (wr : wR D R) (rc : iRC R M) {T : Qg} {n : Nat} (hn1 : 1 ≤ n) (hn4 : n ≤ 4) (hF : rn R = 0 → Q (.inr "java/lang/IllegalStateException") M) (hO : 0 < rn R → ∀ M', iQC (mdT T (tkN D R n)) M' → (∀ a i, (a < 17 ∨ 21 < a) ∧ (a < 53 ∨ 56 < a) → M'.1 a i = M.1 a i ∧ M'.2.1 a i = M.2.1 a i ∧ M'.2.2 a i = M.2.2 a i) → Q (.inl (some (.int (nI (qn (mdT T (tkN D R n))))))) M') : AW sys l ab_Zt k_BF_model 6 92 0 [(0, .ref (0)), (1, .int (nI (n)))] [] M 0 0 Q := by
  have hr12 := wr.1
  refine aw_iload_n d_BF_model_0 rfl 1 rfl ?_
  refine aw_iconst (v := nI 1) d_BF_model_1 (by decide) ?_
  refine aw_icmp_ltN (tgt := 10) d_BF_model_2 (by decide) (by omega) (by omega) (fun c1 => ?_) (fun c1 => ?_)
  · skip
    exfalso; omega
  · skip
    refine aw_iload_n d_BF_model_5 rfl 1 rfl ?_
    refine aw_iconst (v := nI 4) d_BF_model_6 (by decide) ?_
    refine aw_icmp_leN (tgt := 20) d_BF_model_7 (by decide) (by omega) (by omega) (fun c2 => ?_) (fun c2 => ?_)
    · skip
      refine aw_aload_n d_BF_model_20 rfl 0 rfl ?_
      refine aw_get (ic := 0) (ci := 0) (k := 3) (v := .ref 50) d_BF_model_21 rfl rfl (by decide) rfl mw_192 rfl ?_
      refine aw_callV (K' := k_RA_size) (As := []) (rest := []) (b := 50) d_BF_model_24 rfl rfl rfl cs_BF_204 rfl (Nat.le_of_ble_eq_true rfl) (Nat.le_of_ble_eq_true rfl) (by decide) (by decide) (d' := 0) (w' := 0) (by decide) (by decide) ?_
      show AW _ _ _ _ _ _ _ [(0, .ref (50))] _ _ _ _ _
      refine aw_aload_n d_RA_size_0 rfl 0 rfl ?_
      refine aw_get (ic := 50) (ci := 4) (k := 2) d_RA_size_1 rfl rfl (by decide) rfl mw_153 rfl ?_
      refine aw_eqi (nI (rn R)) rc.1 ?_
      refine aw_iret d_RA_size_4 rfl (by decide) (by decide) (ab_go1 ?_)
      refine aw_if_neN (tgt := 40) d_BF_model_27 (by decide) (by omega) (fun c3 => ?_) (fun c3 => ?_)
      · skip
        refine aw_aload_n d_BF_model_40 rfl 0 rfl ?_
        refine aw_get (ic := 0) (ci := 0) (k := 4) (v := .ref 53) d_BF_model_41 rfl rfl (by decide) rfl mw_193 rfl ?_
        refine aw_iload_n d_BF_model_44 rfl 1 rfl ?_
        refine aw_callV (K' := k_MK_choose) (As := [.int (nI (n))]) (rest := []) (b := 53) d_BF_model_45 rfl rfl rfl cs_BF_207 rfl (Nat.le_of_ble_eq_true rfl) (Nat.le_of_ble_eq_true rfl) (by decide) (by decide) (d' := 2) (w' := 49) (by decide) (by decide) ?_
        show AW _ _ _ _ _ _ _ [(0, .ref (53)), (1, .int (nI (n)))] _ _ _ _ _
        refine A_choose wd dc wr rc hn4 (fun M1 k1 f1' => ?_)
        refine ab_go0 ?_
        refine aw_aload_n d_BF_model_48 rfl 0 rfl ?_
        refine aw_get (ic := 0) (ci := 0) (k := 4) (v := .ref 53) d_BF_model_49 rfl rfl (by decide) rfl mw_193 rfl ?_
        refine aw_aload_n d_BF_model_52 rfl 0 rfl ?_
        refine aw_get (ic := 0) (ci := 0) (k := 1) (v := .ref 17) d_BF_model_53 rfl rfl (by decide) rfl mw_190 rfl ?_
        refine aw_callV (K' := k_MK_write) (As := [.ref (17)]) (rest := []) (b := 53) d_BF_model_56 rfl rfl rfl cs_BF_210 rfl (Nat.le_of_ble_eq_true rfl) (Nat.le_of_ble_eq_true rfl) (by decide) (by decide) (d' := 3) (w' := 70) (by decide) (by decide) ?_
        show AW _ _ _ _ _ _ _ [(0, .ref (53)), (1, .ref (17))] _ _ _ _ _
        refine A_write (T := T) wd wr (tkN_ok D R n).1 (Nat.le_trans (tkN_ok D R n).2 hn4) k1 (fun M2 q2 f2 => ?_)
        refine ab_go0 ?_
        refine aw_aload_n d_BF_model_59 rfl 0 rfl ?_
        refine aw_get (ic := 0) (ci := 0) (k := 1) (v := .ref 17) d_BF_model_60 rfl rfl (by decide) rfl mw_190 rfl ?_
        refine aw_callV (K' := k_QU_size) (As := []) (rest := []) (b := 17) d_BF_model_63 rfl rfl rfl cs_BF_125 rfl (Nat.le_of_ble_eq_true rfl) (Nat.le_of_ble_eq_true rfl) (by decide) (by decide) (d' := 0) (w' := 0) (by decide) (by decide) ?_
        show AW _ _ _ _ _ _ _ [(0, .ref (17))] _ _ _ _ _
        refine aw_aload_n d_QU_size_0 rfl 0 rfl ?_
        refine aw_get (ic := 17) (ci := 2) (k := 4) d_QU_size_1 rfl rfl (by decide) rfl mw_96 rfl ?_
        refine aw_eqi (nI (qn (mdT T (tkN D R n)))) q2.1 ?_
        refine aw_iret d_QU_size_4 rfl (by decide) (by decide) (ab_go1 ?_)
        refine aw_iret d_BF_model_66 rfl (by decide) (by decide) ?_
        exact hO (by omega) _ q2 (fun a i ha => ⟨((f2 a i (by omega)).1).trans (f1' a i (by omega)).1, ((f2 a i (by omega)).2.1).trans (f1' a i (by omega)).2.1, ((f2 a i (by omega)).2.2).trans (f1' a i (by omega)).2.2⟩)
      · skip
        refine th_ISE hl rfl d_BF_model_30 d_BF_model_33 d_BF_model_34 d_BF_model_36 d_BF_model_39 (List.mem_of_getElem? (i := 18) rfl) rfl (by decide) (by decide) (by decide) (by decide) ?_
        exact hF (by omega)
    · skip
      exfalso; omega
