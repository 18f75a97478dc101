/-! the class judges a document (rows laid by gen/m7.py) -/
theorem R23 : ∀ t, t < 24 → yR sys 23 t = 24 + t := by decide +kernel
theorem R2 : ∀ d, d < 12 → yR sys 2 d = 3 + d := by decide +kernel
def frJ (M M' : ab_M) : Prop := M'.1 = M.1 ∧ M'.2.2 = M.2.2 ∧ ∀ a i, a ≠ 49 → M'.2.1 a i = M.2.1 a i
def frT (M M' : ab_M) (t : Nat) : Prop := M'.2 = M.2 ∧ ∀ a i, a ≠ 24 + t → (a ≠ 48 ∨ i ≠ t) → M'.1 a i = M.1 a i
def frH (M M' : ab_M) : Prop := M'.2 = M.2 ∧ ∀ a i, a < 24 ∨ 48 < a → M'.1 a i = M.1 a i
def hitM (T : Qg) (D : Dg) (M : ab_M) (t : Nat) : Prop := M.1 48 t = nI (cfT T D t) ∧ ∀ d, d < dn D → M.1 (24 + t) d = nI (tfT T D t d)
theorem jd_step {S : Sg} {T : Qg} {D : Dg} {d jp : Nat} {M : ab_M} (hj : jp + 1 ≤ qn T) (hb : ∀ i, jp + 1 ≤ i → i < qn T → M.2.1 49 i = bl S T D d (qn T - (jp + 1)) i) : ∀ i, jp ≤ i → i < qn T → (ab_sD M 49 jp (stD S T D d (bl S T D d (qn T - (jp + 1))) jp)).2.1 49 i = bl S T D d (qn T - jp) i := by
  intro i h1 h2
  rw [show qn T - jp = qn T - (jp + 1) + 1 by omega]
  by_cases e : i = jp
  · subst e
    rw [sD_hit]
    have := bl_here (S := S) (T := T) (D := D) (d := d) (k := qn T - (i + 1))
    rw [show qn T - 1 - (qn T - (i + 1)) = i by omega] at this
    exact this.symm
  · rw [sD_ne (Or.inr e), hb i (by omega) h2, bl_off (by omega)]
def metB (T : Qg) (D : Dg) (B : Nat → UInt64) (d t : Nat) : Bool := if qk T t ≤ 4 then decide (0 < tfT T D t d) else decide (fz 4602678819172646912 < fz (B t))
def lfB (T : Qg) (D : Dg) (B : Nat → UInt64) (d : Nat) : Nat → Bool := fun t => decide (qk T t = 11) && !metB T D B d (t + 1)
def outB (T : Qg) (D : Dg) (B : Nat → UInt64) (d : Nat) : Bool := an (lfB T D B d) (qn T)
theorem R22n {T : Qg} (wq : wQ T) (h0 : op T (qn T) = 0) {t : Nat} (ht : t < qn T) (hk : qk T t = 11) : t + 1 < qn T := by
  have := pa_lt wq h0 ht (i := 0) (by rw [prt_2 (by omega)]; omega)
  exact this.2

set_option maxRecDepth 4000 in
theorem A_judge_loop {l : Launch} {M : ab_M} {Q : ab_O → ab_M → Prop} {D : Dg} {T : Qg} {S : Sg} (wd : wD D) (dc : iDC D M) (wq : wQ T) (qc : iQC T M) (ws : wS S) (sc : iSC S M) (h0 : op T (qn T) = 0) {d : Nat} (hd : d < dn D) (hl : 0 < dl D d) (hh : ∀ t, t < qn T → qk T t ≤ 4 → hitM T D M t) (hQ : ∀ M', frJ M M' → (∀ i, i < qn T → M'.2.1 49 i = bl S T D d (qn T) i) → Q (.inl none) M') : ∀ (mm : Nat) (j : Nat) (M1 : ab_M), j = mm → (hj : j ≤ qn T) → (hf : frJ M M1) → (hb : ∀ i, j ≤ i → i < qn T → M1.2.1 49 i = bl S T D d (qn T - j) i) → AW sys l ab_Zt k_NE_judge 4 94 10 [(2, .int (nI (j) - nI 1)), (0, .ref (22)), (1, .int (nI (d)))] [] M1 0 0 Q := by
  intro mm
  induction mm using Nat.strongRecOn with
  | ind mm ih =>
    intro j M1 hk hj hf hb
    have h24 := wq.1
    have h12 := wd.1
    have dc1 := iDC_of dc (M' := M1) (fun a i _ => by rw [hf.1])
    have qc1 := iQC_of qc (M' := M1) (fun a i h1 h2 => ⟨by rw [hf.1], hf.2.2 a i (by omega)⟩)
    have sc1 := iSC_of sc (M' := M1) (fun i _ => ⟨by rw [hf.1], hf.2.2 22 i (by omega)⟩)
    refine aw_iload_n d_NE_judge_10 rfl 0 rfl ?_
    refine aw_if_ltM (tgt := 32) d_NE_judge_11 (by decide) (fun c1 => ?_) (fun c1 => ?_)
    · skip
      refine aw_vret d_NE_judge_32 rfl (by decide) (by decide) ?_
      exact hQ M1 hf (fun i h => by have := hb i (by omega) h; rw [show qn T - j = qn T by omega] at this; exact this)
    · skip
      obtain ⟨jp, rfl⟩ : ∃ jp, j = jp + 1 := ⟨j - 1, by omega⟩
      rw [nI_m1 jp]
      refine aw_aload_n d_NE_judge_14 rfl 1 rfl ?_
      refine aw_get (ic := 22) (ci := 3) (k := 4) (v := .ref 49) d_NE_judge_15 rfl rfl (by decide) rfl mw_127 rfl ?_
      refine aw_iload_n d_NE_judge_18 rfl 0 rfl ?_
      refine aw_aload_n d_NE_judge_19 rfl 1 rfl ?_
      refine aw_iload_n d_NE_judge_20 rfl 0 rfl ?_
      refine aw_iload_n d_NE_judge_21 rfl 2 rfl ?_
      refine aw_callV (K' := k_NE_beliefIn) (As := [.int (nI (jp)), .int (nI (d))]) (rest := [.int (nI (jp)), .ref (49)]) (b := 22) d_NE_judge_22 rfl rfl rfl cs_NE_69 rfl (Nat.le_of_ble_eq_true rfl) (Nat.le_of_ble_eq_true rfl) (by decide) (by decide) (d' := 3) (w' := 72) (by decide) (by decide) ?_
      show AW _ _ _ _ _ _ _ [(0, .ref (22)), (1, .int (nI (jp))), (2, .int (nI (d)))] _ _ _ _ _
      refine A_beliefIn wd dc1 wq qc1 ws sc1 h0 (B := bl S T D d (qn T - (jp + 1))) (by omega) (fun i h1 h2 => ⟨hb i (by omega) h2, bl_01 ws wd wq h0 hd hl _ (by omega) i (by omega) h2⟩) hd hl (fun h => by rw [hf.1, R23 jp (by omega)]; exact ⟨(hh jp (by omega) h).2 d hd, (hh jp (by omega) h).1⟩) ?_
      refine ab_go1 ?_
      refine aw_dastN d_NE_judge_25 rfl (by decide) (by omega) ?_
      refine aw_iinc (v := (nI (jp) - nI 1)) (lv' := [(2, .int (nI (jp) - nI 1)), (0, .ref (22)), (1, .int (nI (d)))]) d_NE_judge_26 (j := 0) rfl (nI_dm (jp)) (by decide) rfl ?_
      refine aw_goto (tgt := 10) d_NE_judge_29 (by decide) ?_
      exact ih _ (by omega) jp _ rfl (by omega) ⟨hf.1, hf.2.1, fun a i h => by rw [sD_ne (Or.inl h)]; exact hf.2.2 a i h⟩ (jd_step hj hb)
set_option maxRecDepth 4000 in
theorem A_judge {l : Launch} {M : ab_M} {Q : ab_O → ab_M → Prop} {D : Dg} {T : Qg} {S : Sg} (wd : wD D) (dc : iDC D M) (wq : wQ T) (qc : iQC T M) (ws : wS S) (sc : iSC S M) (h0 : op T (qn T) = 0) {d : Nat} (hd : d < dn D) (hl : 0 < dl D d) (hh : ∀ t, t < qn T → qk T t ≤ 4 → hitM T D M t) (hQ : ∀ M', frJ M M' → (∀ i, i < qn T → M'.2.1 49 i = bl S T D d (qn T) i) → Q (.inl none) M') : AW sys l ab_Zt k_NE_judge 4 94 0 [(0, .ref (22)), (1, .int (nI (d)))] [] M 0 0 Q := by
  have h24 := wq.1
  refine aw_aload_n d_NE_judge_0 rfl 0 rfl ?_
  refine aw_get (ic := 22) (ci := 3) (k := 1) (v := .ref 17) d_NE_judge_1 rfl rfl (by decide) rfl mw_124 rfl ?_
  refine aw_callV (K' := k_QU_size) (As := []) (rest := []) (b := 17) d_NE_judge_4 rfl rfl rfl cs_NE_52 rfl (Nat.le_of_ble_eq_true rfl) (Nat.le_of_ble_eq_true rfl) (by decide) (by decide) (d' := 0) (w' := 0) (by decide) (by decide) ?_
  show AW _ _ _ _ _ _ _ [(0, .ref (17))] _ _ _ _ _
  refine aw_aload_n d_QU_size_0 rfl 0 rfl ?_
  refine aw_get (ic := 17) (ci := 2) (k := 4) d_QU_size_1 rfl rfl (by decide) rfl mw_96 rfl ?_
  refine aw_eqi (nI (qn T)) qc.1 ?_
  refine aw_iret d_QU_size_4 rfl (by decide) (by decide) (ab_go1 ?_)
  refine aw_iconst (v := nI 1) d_NE_judge_7 (by decide) ?_
  refine aw_isub d_NE_judge_8 ?_
  refine aw_istore_n (lv' := [(2, .int (nI (qn T) - nI 1)), (0, .ref (22)), (1, .int (nI (d)))]) d_NE_judge_9 rfl (by decide) rfl ?_
  exact A_judge_loop wd dc wq qc ws sc h0 hd hl hh hQ _ (qn T) M rfl (Nat.le_refl _) ⟨rfl, rfl, fun _ _ _ => rfl⟩ (fun i h1 h2 => by omega)
set_option maxRecDepth 4000 in
theorem A_chOf_loop {l : Launch} {M : ab_M} {Q : ab_O → ab_M → Prop} {D : Dg} {T : Qg} (wd : wD D) (dc : iDC D M) (wq : wQ T) (qc : iQC T M) (h0 : op T (qn T) = 0) {t : Nat} (ht : t < qn T) (hk4 : qk T t ≤ 4) (hQ : ∀ M', frT M M' t → hitM T D M' t → Q (.inl none) M') : ∀ (mm : Nat) (e : Nat) (M1 : ab_M), 12 - e = mm → (he : e ≤ dn D) → (hf : frT M M1 t) → (hc1 : M1.1 48 t = nI (ps (fun e => cn (hitB T D t e) (dl D e)) e)) → (hc2 : ∀ d, d < e → M1.1 (24 + t) d = nI (tfT T D t d)) → AW sys l ab_Zt k_NE_countHitsOf 5 119 9 [(2, .int (nI (e))), (0, .ref (22)), (1, .int (nI (t)))] [] M1 0 0 Q := by
  intro mm
  induction mm using Nat.strongRecOn with
  | ind mm ih =>
    intro e M1 hk he hf hc1 hc2
    have h24 := wq.1
    have h12 := wd.1
    have hr : yR sys 23 t = 24 + t := R23 t (by omega)
    have dc1 := iDC_of dc (M' := M1) (fun a i _ => hf.2 a i (by omega) (by omega))
    have qc1 := iQC_of qc (M' := M1) (fun a i h1 h2 => ⟨hf.2 a i (by omega) (by omega), by rw [hf.1]⟩)
    have hle := tf_le T D t e
    have hl9 := wd.2.1 e
    refine aw_iload_n d_NE_countHitsOf_9 rfl 0 rfl ?_
    refine aw_aload_n d_NE_countHitsOf_10 rfl 1 rfl ?_
    refine aw_get (ic := 22) (ci := 3) (k := 0) (v := .ref 1) d_NE_countHitsOf_11 rfl rfl (by decide) rfl mw_123 rfl ?_
    refine aw_callV (K' := k_TX_size) (As := []) (rest := [.int (nI (e))]) (b := 1) d_NE_countHitsOf_14 rfl rfl rfl cs_NE_79 rfl (Nat.le_of_ble_eq_true rfl) (Nat.le_of_ble_eq_true rfl) (by decide) (by decide) (d' := 0) (w' := 0) (by decide) (by decide) ?_
    show AW _ _ _ _ _ _ _ [(0, .ref (1))] _ _ _ _ _
    refine aw_aload_n d_TX_size_0 rfl 0 rfl ?_
    refine aw_get (ic := 1) (ci := 1) (k := 3) d_TX_size_1 rfl rfl (by decide) rfl mw_72 rfl ?_
    refine aw_eqi (nI (dn D)) dc1.1 ?_
    refine aw_iret d_TX_size_4 rfl (by decide) (by decide) (ab_go1 ?_)
    refine aw_icmp_geN (tgt := 57) d_NE_countHitsOf_17 (by decide) (by omega) (by omega) (fun c1 => ?_) (fun c1 => ?_)
    · skip
      refine aw_vret d_NE_countHitsOf_57 rfl (by decide) (by decide) ?_
      exact hQ M1 hf ⟨by rw [hc1, show e = dn D by omega]; rfl, fun d h => hc2 d (by omega)⟩
    · skip
      refine aw_aload_n d_NE_countHitsOf_20 rfl 1 rfl ?_
      refine aw_get (ic := 22) (ci := 3) (k := 2) (v := .ref 23) d_NE_countHitsOf_21 rfl rfl (by decide) rfl mw_125 rfl ?_
      refine aw_iload_n d_NE_countHitsOf_24 rfl 2 rfl ?_
      refine aw_aaldN d_NE_countHitsOf_25 rfl (by decide) (by omega) ?_
      refine aw_iload_n d_NE_countHitsOf_26 rfl 0 rfl ?_
      refine aw_aload_n d_NE_countHitsOf_27 rfl 1 rfl ?_
      refine aw_iload_n d_NE_countHitsOf_28 rfl 2 rfl ?_
      refine aw_iload_n d_NE_countHitsOf_29 rfl 0 rfl ?_
      refine aw_callV (K' := k_NE_hitsIn) (As := [.int (nI (t)), .int (nI (e))]) (rest := [.int (nI (e)), .ref (yR sys 23 (t))]) (b := 22) d_NE_countHitsOf_30 rfl rfl rfl cs_NE_80 rfl (Nat.le_of_ble_eq_true rfl) (Nat.le_of_ble_eq_true rfl) (by decide) (by decide) (d' := 4) (w' := 95) (by decide) (by decide) ?_
      show AW _ _ _ _ _ _ _ [(0, .ref (22)), (1, .int (nI (t))), (2, .int (nI (e)))] _ _ _ _ _
      refine A_hitsIn wd dc1 wq qc1 h0 ht hk4 (by omega) ?_
      refine ab_go1 ?_
      refine aw_iastN d_NE_countHitsOf_33 (L_tf (by omega)) (by decide) (by omega) ?_
      refine aw_aload_n d_NE_countHitsOf_34 rfl 1 rfl ?_
      refine aw_get (ic := 22) (ci := 3) (k := 3) (v := .ref 48) d_NE_countHitsOf_35 rfl rfl (by decide) rfl mw_126 rfl ?_
      refine aw_iload_n d_NE_countHitsOf_38 rfl 2 rfl ?_
      refine aw_dup2_11 d_NE_countHitsOf_39 rfl rfl ?_
      refine aw_ialdN d_NE_countHitsOf_40 rfl (by decide) (by omega) ?_
      refine aw_eqi (nI (ps (fun e => cn (hitB T D t e) (dl D e)) e)) (by rw [sI_ne (by omega)]; exact hc1) ?_
      refine aw_aload_n d_NE_countHitsOf_41 rfl 1 rfl ?_
      refine aw_get (ic := 22) (ci := 3) (k := 2) (v := .ref 23) d_NE_countHitsOf_42 rfl rfl (by decide) rfl mw_125 rfl ?_
      refine aw_iload_n d_NE_countHitsOf_45 rfl 2 rfl ?_
      refine aw_aaldN d_NE_countHitsOf_46 rfl (by decide) (by omega) ?_
      refine aw_iload_n d_NE_countHitsOf_47 rfl 0 rfl ?_
      refine aw_ialdN d_NE_countHitsOf_48 (L_tf (by omega)) (by decide) (by omega) ?_
      refine aw_eqi (nI (tfT T D t e)) (sI_hit _ _ _ _) ?_
      refine aw_iaddN d_NE_countHitsOf_49 ?_
      refine aw_iastN d_NE_countHitsOf_50 rfl (by decide) (by omega) ?_
      refine aw_iinc (v := (nI (e + 1))) (lv' := [(2, .int (nI (e + 1))), (0, .ref (22)), (1, .int (nI (t)))]) d_NE_countHitsOf_51 (j := 0) rfl (nI_add (e) 1) (by decide) rfl ?_
      refine aw_goto (tgt := 9) d_NE_countHitsOf_54 (by decide) ?_
      exact ih _ (by omega) (e + 1) _ rfl (by omega) ⟨hf.1, fun a i h1 h2 => by rw [sI_ne (by omega), sI_ne (by omega)]; exact hf.2 a i h1 h2⟩ (by rw [sI_hit]; rfl) (fun d h => by rw [sI_ne (by omega)]; rcases Nat.lt_or_ge d e with h9 | h9; rw [sI_ne (by omega)]; exact hc2 d h9; rw [show d = e by omega, hr, sI_hit]; rfl)
set_option maxRecDepth 4000 in
theorem A_countHitsOf {l : Launch} {M : ab_M} {Q : ab_O → ab_M → Prop} {D : Dg} {T : Qg} (wd : wD D) (dc : iDC D M) (wq : wQ T) (qc : iQC T M) (h0 : op T (qn T) = 0) {t : Nat} (ht : t < qn T) (hk4 : qk T t ≤ 4) (hQ : ∀ M', frT M M' t → hitM T D M' t → Q (.inl none) M') : AW sys l ab_Zt k_NE_countHitsOf 5 119 0 [(0, .ref (22)), (1, .int (nI (t)))] [] M 0 0 Q := by
  have h24 := wq.1
  refine aw_aload_n d_NE_countHitsOf_0 rfl 0 rfl ?_
  refine aw_get (ic := 22) (ci := 3) (k := 3) (v := .ref 48) d_NE_countHitsOf_1 rfl rfl (by decide) rfl mw_126 rfl ?_
  refine aw_iload_n d_NE_countHitsOf_4 rfl 1 rfl ?_
  refine aw_iconst (v := nI 0) d_NE_countHitsOf_5 (by decide) ?_
  refine aw_iastN d_NE_countHitsOf_6 rfl (by decide) (by omega) ?_
  refine aw_iconst (v := nI 0) d_NE_countHitsOf_7 (by decide) ?_
  refine aw_istore_n (lv' := [(2, .int (nI (0))), (0, .ref (22)), (1, .int (nI (t)))]) d_NE_countHitsOf_8 rfl (by decide) rfl ?_
  exact A_chOf_loop wd dc wq qc h0 ht hk4 hQ _ 0 _ rfl (by omega) ⟨rfl, fun a i h1 h2 => sI_ne (by omega)⟩ (sI_hit _ _ _ _) (fun d h => by omega)
set_option maxRecDepth 4000 in
theorem A_ch_loop {l : Launch} {M : ab_M} {Q : ab_O → ab_M → Prop} {D : Dg} {T : Qg} (wd : wD D) (dc : iDC D M) (wq : wQ T) (qc : iQC T M) (h0 : op T (qn T) = 0) (hQ : ∀ M', frH M M' → (∀ t, t < qn T → qk T t ≤ 4 → hitM T D M' t) → Q (.inl none) M') : ∀ (mm : Nat) (t : Nat) (M1 : ab_M), 24 - t = mm → (ht : t ≤ qn T) → (hf : frH M M1) → (hc : ∀ t', t' < t → qk T t' ≤ 4 → hitM T D M1 t') → AW sys l ab_Zt k_NE_countHits 6 141 2 [(1, .int (nI (t))), (0, .ref (22))] [] M1 0 0 Q := by
  intro mm
  induction mm using Nat.strongRecOn with
  | ind mm ih =>
    intro t M1 hk ht hf hc
    have h24 := wq.1
    have h12 := wd.1
    have dc1 := iDC_of dc (M' := M1) (fun a i _ => hf.2 a i (by omega))
    have qc1 := iQC_of qc (M' := M1) (fun a i h1 h2 => ⟨hf.2 a i (by omega), by rw [hf.1]⟩)
    have hk11 : t < qn T → qk T t ≤ 11 := fun h => (wq.2.1 t h).1
    refine aw_iload_n d_NE_countHits_2 rfl 0 rfl ?_
    refine aw_aload_n d_NE_countHits_3 rfl 1 rfl ?_
    refine aw_get (ic := 22) (ci := 3) (k := 1) (v := .ref 17) d_NE_countHits_4 rfl rfl (by decide) rfl mw_124 rfl ?_
    refine aw_callV (K' := k_QU_size) (As := []) (rest := [.int (nI (t))]) (b := 17) d_NE_countHits_7 rfl rfl rfl cs_NE_52 rfl (Nat.le_of_ble_eq_true rfl) (Nat.le_of_ble_eq_true rfl) (by decide) (by decide) (d' := 0) (w' := 0) (by decide) (by decide) ?_
    show AW _ _ _ _ _ _ _ [(0, .ref (17))] _ _ _ _ _
    refine aw_aload_n d_QU_size_0 rfl 0 rfl ?_
    refine aw_get (ic := 17) (ci := 2) (k := 4) d_QU_size_1 rfl rfl (by decide) rfl mw_96 rfl ?_
    refine aw_eqi (nI (qn T)) qc1.1 ?_
    refine aw_iret d_QU_size_4 rfl (by decide) (by decide) (ab_go1 ?_)
    refine aw_icmp_geN (tgt := 38) d_NE_countHits_10 (by decide) (by omega) (by omega) (fun c1 => ?_) (fun c1 => ?_)
    · skip
      refine aw_vret d_NE_countHits_38 rfl (by decide) (by decide) ?_
      exact hQ M1 hf (fun t' h hk' => hc t' (by omega) hk')
    · skip
      refine aw_aload_n d_NE_countHits_13 rfl 1 rfl ?_
      refine aw_get (ic := 22) (ci := 3) (k := 1) (v := .ref 17) d_NE_countHits_14 rfl rfl (by decide) rfl mw_124 rfl ?_
      refine aw_iload_n d_NE_countHits_17 rfl 0 rfl ?_
      refine aw_callV (K' := k_QU_kindOf) (As := [.int (nI (t))]) (rest := []) (b := 17) d_NE_countHits_18 rfl rfl rfl cs_NE_58 rfl (Nat.le_of_ble_eq_true rfl) (Nat.le_of_ble_eq_true rfl) (by decide) (by decide) (d' := 0) (w' := 0) (by decide) (by decide) ?_
      show AW _ _ _ _ _ _ _ [(0, .ref (17)), (1, .int (nI (t)))] _ _ _ _ _
      refine aw_aload_n d_QU_kindOf_0 rfl 0 rfl ?_
      refine aw_get (ic := 17) (ci := 2) (k := 0) (v := .ref 18) d_QU_kindOf_1 rfl rfl (by decide) rfl mw_92 rfl ?_
      refine aw_iload_n d_QU_kindOf_4 rfl 1 rfl ?_
      refine aw_ialdN d_QU_kindOf_5 rfl (by decide) (by omega) ?_
      refine aw_eqi (nI (qk T t)) (qc1.2.1 _ (by omega)) ?_
      refine aw_iret d_QU_kindOf_6 rfl (by decide) (by decide) (ab_go1 ?_)
      refine aw_callSN (K' := k_BF_hasHits) (As := [.int (nI (qk T t))]) (rest := []) d_NE_countHits_21 wn_NE_61 cs_NE_61 rfl (Nat.le_of_ble_eq_true rfl) (Nat.le_of_ble_eq_true rfl) (by decide) (by decide) (d' := 0) (w' := 0) (by decide) (by decide) ?_
      show AW _ _ _ _ _ _ _ [(0, .int (nI (qk T t)))] _ _ _ _ _
      refine aw_iload_n d_BF_hasHits_0 rfl 0 rfl ?_
      refine aw_if_lt (tgt := 13) d_BF_hasHits_1 (by decide) (fun c2 => ?_) (fun c2 => ?_)
      · skip
        exact absurd c2 (nI_pos (by omega))
      · skip
        refine aw_iload_n d_BF_hasHits_4 rfl 0 rfl ?_
        refine aw_iconst (v := nI 4) d_BF_hasHits_5 (by decide) ?_
        refine aw_icmp_gtN (tgt := 13) d_BF_hasHits_6 (by decide) (by omega) (by omega) (fun c3 => ?_) (fun c3 => ?_)
        · skip
          refine aw_iconst (v := nI 0) d_BF_hasHits_13 (by decide) ?_
          refine aw_zret (Or.inl rfl) d_BF_hasHits_14 rfl (by decide) (by decide) (ab_go1 ?_)
          refine aw_if_eqN (tgt := 32) d_NE_countHits_24 (by decide) (by omega) (fun c4 => ?_) (fun c4 => ?_)
          · skip
            refine aw_iinc (v := (nI (t + 1))) (lv' := [(1, .int (nI (t + 1))), (0, .ref (22))]) d_NE_countHits_32 (j := 0) rfl (nI_add (t) 1) (by decide) rfl ?_
            refine aw_goto (tgt := 2) d_NE_countHits_35 (by decide) ?_
            exact ih _ (by omega) (t + 1) M1 rfl (by omega) hf (fun t' h hk' => by rcases Nat.lt_or_ge t' t with h9 | h9; exact hc t' h9 hk'; rw [show t' = t by omega] at hk'; omega)
          · skip
            exact absurd c4 (by decide)
        · skip
          refine aw_iconst (v := nI 1) d_BF_hasHits_9 (by decide) ?_
          refine aw_goto (tgt := 14) d_BF_hasHits_10 (by decide) ?_
          refine aw_zret (Or.inr rfl) d_BF_hasHits_14 rfl (by decide) (by decide) (ab_go1 ?_)
          refine aw_if_eqN (tgt := 32) d_NE_countHits_24 (by decide) (by omega) (fun c5 => ?_) (fun c5 => ?_)
          · skip
            exact absurd c5 (by decide)
          · skip
            refine aw_aload_n d_NE_countHits_27 rfl 1 rfl ?_
            refine aw_iload_n d_NE_countHits_28 rfl 0 rfl ?_
            refine aw_callV (K' := k_NE_countHitsOf) (As := [.int (nI (t))]) (rest := []) (b := 22) d_NE_countHits_29 rfl rfl rfl cs_NE_65 rfl (Nat.le_of_ble_eq_true rfl) (Nat.le_of_ble_eq_true rfl) (by decide) (by decide) (d' := 5) (w' := 119) (by decide) (by decide) ?_
            show AW _ _ _ _ _ _ _ [(0, .ref (22)), (1, .int (nI (t)))] _ _ _ _ _
            refine A_countHitsOf wd dc1 wq qc1 h0 (by omega) (by omega) (fun M2 hf2 hh2 => ?_)
            refine ab_go0 ?_
            refine aw_iinc (v := (nI (t + 1))) (lv' := [(1, .int (nI (t + 1))), (0, .ref (22))]) d_NE_countHits_32 (j := 0) rfl (nI_add (t) 1) (by decide) rfl ?_
            refine aw_goto (tgt := 2) d_NE_countHits_35 (by decide) ?_
            exact ih _ (by omega) (t + 1) M2 rfl (by omega) ⟨by rw [hf2.1]; exact hf.1, fun a i h => by rw [hf2.2 a i (by omega) (by omega)]; exact hf.2 a i h⟩ (fun t' h hk' => by rcases Nat.lt_or_ge t' t with h9 | h9; exact ⟨by rw [hf2.2 48 t' (by omega) (by omega)]; exact (hc t' h9 hk').1, fun d hd => by rw [hf2.2 (24 + t') d (by omega) (by omega)]; exact (hc t' h9 hk').2 d hd⟩; rw [show t' = t by omega]; exact hh2)
set_option maxRecDepth 4000 in
theorem A_countHits {l : Launch} {M : ab_M} {Q : ab_O → ab_M → Prop} {D : Dg} {T : Qg} (wd : wD D) (dc : iDC D M) (wq : wQ T) (qc : iQC T M) (h0 : op T (qn T) = 0) (hQ : ∀ M', frH M M' → (∀ t, t < qn T → qk T t ≤ 4 → hitM T D M' t) → Q (.inl none) M') : AW sys l ab_Zt k_NE_countHits 6 141 0 [(0, .ref (22))] [] M 0 0 Q := by
  refine aw_iconst (v := nI 0) d_NE_countHits_0 (by decide) ?_
  refine aw_istore_n (lv' := [(1, .int (nI (0))), (0, .ref (22))]) d_NE_countHits_1 rfl (by decide) rfl ?_
  exact A_ch_loop wd dc wq qc h0 hQ _ 0 M rfl (by omega) ⟨rfl, fun _ _ _ => rfl⟩ (fun t h => by omega)
set_option maxRecDepth 4000 in
theorem A_isMet {l : Launch} {M : ab_M} {Q : ab_O → ab_M → Prop} {D : Dg} {T : Qg} (wd : wD D) (dc : iDC D M) (wq : wQ T) (qc : iQC T M) (h0 : op T (qn T) = 0) {B : Nat → UInt64} (hB : ∀ i, i < qn T → M.2.1 49 i = B i ∧ f01 (B i)) {d : Nat} (hd : d < dn D) (hh : ∀ t, t < qn T → qk T t ≤ 4 → hitM T D M t) {t : Nat} (ht : t < qn T) (hQ : Q (.inl (some (.int (nI (bN (metB T D B d t)))))) M) : AW sys l ab_Zt k_NE_isMet 1 21 0 [(0, .ref (22)), (1, .int (nI (t))), (2, .int (nI (d)))] [] M 0 0 Q := by
  have h24 := wq.1
  have h12 := wd.1
  have hk11 := (wq.2.1 t ht).1
  have hle := tf_le T D t d
  have hl9 := wd.2.1 d
  refine aw_aload_n d_NE_isMet_0 rfl 0 rfl ?_
  refine aw_get (ic := 22) (ci := 3) (k := 1) (v := .ref 17) d_NE_isMet_1 rfl rfl (by decide) rfl mw_124 rfl ?_
  refine aw_iload_n d_NE_isMet_4 rfl 1 rfl ?_
  refine aw_callV (K' := k_QU_kindOf) (As := [.int (nI (t))]) (rest := []) (b := 17) d_NE_isMet_5 rfl rfl rfl cs_NE_58 rfl (Nat.le_of_ble_eq_true rfl) (Nat.le_of_ble_eq_true rfl) (by decide) (by decide) (d' := 0) (w' := 0) (by decide) (by decide) ?_
  show AW _ _ _ _ _ _ _ [(0, .ref (17)), (1, .int (nI (t)))] _ _ _ _ _
  refine aw_aload_n d_QU_kindOf_0 rfl 0 rfl ?_
  refine aw_get (ic := 17) (ci := 2) (k := 0) (v := .ref 18) d_QU_kindOf_1 rfl rfl (by decide) rfl mw_92 rfl ?_
  refine aw_iload_n d_QU_kindOf_4 rfl 1 rfl ?_
  refine aw_ialdN d_QU_kindOf_5 rfl (by decide) (by omega) ?_
  refine aw_eqi (nI (qk T t)) (qc.2.1 _ (by omega)) ?_
  refine aw_iret d_QU_kindOf_6 rfl (by decide) (by decide) (ab_go1 ?_)
  refine aw_callSN (K' := k_BF_hasHits) (As := [.int (nI (qk T t))]) (rest := []) d_NE_isMet_8 wn_NE_61 cs_NE_61 rfl (Nat.le_of_ble_eq_true rfl) (Nat.le_of_ble_eq_true rfl) (by decide) (by decide) (d' := 0) (w' := 0) (by decide) (by decide) ?_
  show AW _ _ _ _ _ _ _ [(0, .int (nI (qk T t)))] _ _ _ _ _
  refine aw_iload_n d_BF_hasHits_0 rfl 0 rfl ?_
  refine aw_if_lt (tgt := 13) d_BF_hasHits_1 (by decide) (fun c1 => ?_) (fun c1 => ?_)
  · skip
    exact absurd c1 (nI_pos (by omega))
  · skip
    refine aw_iload_n d_BF_hasHits_4 rfl 0 rfl ?_
    refine aw_iconst (v := nI 4) d_BF_hasHits_5 (by decide) ?_
    refine aw_icmp_gtN (tgt := 13) d_BF_hasHits_6 (by decide) (by omega) (by omega) (fun c2 => ?_) (fun c2 => ?_)
    · skip
      refine aw_iconst (v := nI 0) d_BF_hasHits_13 (by decide) ?_
      refine aw_zret (Or.inl rfl) d_BF_hasHits_14 rfl (by decide) (by decide) (ab_go1 ?_)
      refine aw_if_eqN (tgt := 33) d_NE_isMet_11 (by decide) (by omega) (fun c3 => ?_) (fun c3 => ?_)
      · skip
        refine aw_aload_n d_NE_isMet_33 rfl 0 rfl ?_
        refine aw_get (ic := 22) (ci := 3) (k := 4) (v := .ref 49) d_NE_isMet_34 rfl rfl (by decide) rfl mw_127 rfl ?_
        refine aw_iload_n d_NE_isMet_37 rfl 1 rfl ?_
        refine aw_daldN d_NE_isMet_38 rfl (by decide) (by omega) ?_
        refine aw_eqd (B t) (hB t ht).1 ?_
        refine aw_ldc2d (v := 4602678819172646912) d_NE_isMet_39 mw_591 ?_
        refine aw_dcmp d_NE_isMet_42 ?_
        refine ad_le (hB t ht).2.1.n fF_05.n d_NE_isMet_43 (tgt := 50) (by decide) (fun c4 => ?_) (fun c4 => ?_)
        · skip
          refine aw_iconst (v := nI 0) d_NE_isMet_50 (by decide) ?_
          refine aw_zret (Or.inl rfl) d_NE_isMet_51 rfl (by decide) (by decide) ?_
          exact q_b (c := false) (by simp only [metB]; rw [if_neg (by omega), decide_eq_false (by omega)]) rfl hQ
        · skip
          refine aw_iconst (v := nI 1) d_NE_isMet_46 (by decide) ?_
          refine aw_goto (tgt := 51) d_NE_isMet_47 (by decide) ?_
          refine aw_zret (Or.inr rfl) d_NE_isMet_51 rfl (by decide) (by decide) ?_
          exact q_b (c := true) (by simp only [metB]; rw [if_neg (by omega), decide_eq_true (by omega)]) rfl hQ
      · skip
        exact absurd c3 (by decide)
    · skip
      refine aw_iconst (v := nI 1) d_BF_hasHits_9 (by decide) ?_
      refine aw_goto (tgt := 14) d_BF_hasHits_10 (by decide) ?_
      refine aw_zret (Or.inr rfl) d_BF_hasHits_14 rfl (by decide) (by decide) (ab_go1 ?_)
      refine aw_if_eqN (tgt := 33) d_NE_isMet_11 (by decide) (by omega) (fun c5 => ?_) (fun c5 => ?_)
      · skip
        exact absurd c5 (by decide)
      · skip
        refine aw_aload_n d_NE_isMet_14 rfl 0 rfl ?_
        refine aw_get (ic := 22) (ci := 3) (k := 2) (v := .ref 23) d_NE_isMet_15 rfl rfl (by decide) rfl mw_125 rfl ?_
        refine aw_iload_n d_NE_isMet_18 rfl 1 rfl ?_
        refine aw_aaldN d_NE_isMet_19 rfl (by decide) (by omega) ?_
        refine aw_iload_n d_NE_isMet_20 rfl 2 rfl ?_
        refine aw_ialdN d_NE_isMet_21 (L_tf (by omega)) (by decide) (by omega) ?_
        refine aw_eqi (nI (tfT T D t d)) (by rw [R23 t (by omega)]; exact (hh t ht (by omega)).2 d hd) ?_
        refine aw_if_leN (tgt := 29) d_NE_isMet_22 (by decide) (by omega) (fun c6 => ?_) (fun c6 => ?_)
        · skip
          refine aw_iconst (v := nI 0) d_NE_isMet_29 (by decide) ?_
          refine aw_goto (tgt := 51) d_NE_isMet_30 (by decide) ?_
          refine aw_zret (Or.inl rfl) d_NE_isMet_51 rfl (by decide) (by decide) ?_
          exact q_b (c := false) (by simp only [metB]; rw [if_pos (by omega), decide_eq_false (by omega)]) rfl hQ
        · skip
          refine aw_iconst (v := nI 1) d_NE_isMet_25 (by decide) ?_
          refine aw_goto (tgt := 51) d_NE_isMet_26 (by decide) ?_
          refine aw_zret (Or.inr rfl) d_NE_isMet_51 rfl (by decide) (by decide) ?_
          exact q_b (c := true) (by simp only [metB]; rw [if_pos (by omega), decide_eq_true (by omega)]) rfl hQ
set_option maxRecDepth 4000 in
theorem A_lo_loop {l : Launch} {M : ab_M} {Q : ab_O → ab_M → Prop} {D : Dg} {T : Qg} (wd : wD D) (dc : iDC D M) (wq : wQ T) (qc : iQC T M) (h0 : op T (qn T) = 0) {B : Nat → UInt64} (hB : ∀ i, i < qn T → M.2.1 49 i = B i ∧ f01 (B i)) {d : Nat} (hd : d < dn D) (hh : ∀ t, t < qn T → qk T t ≤ 4 → hitM T D M t) (hQ : Q (.inl (some (.int (nI (bN (outB T D B d)))))) M) : ∀ (mm : Nat) (t : Nat), 24 - t = mm → (ht : t ≤ qn T) → (hf : an (lfB T D B d) t = false) → AW sys l ab_Zt k_NE_leavesOut 2 43 2 [(2, .int (nI (t))), (0, .ref (22)), (1, .int (nI (d)))] [] M 0 0 Q := by
  intro mm
  induction mm using Nat.strongRecOn with
  | ind mm ih =>
    intro t hk ht hf
    have h24 := wq.1
    have hk11 : t < qn T → qk T t ≤ 11 := fun h => (wq.2.1 t h).1
    refine aw_iload_n d_NE_leavesOut_2 rfl 0 rfl ?_
    refine aw_aload_n d_NE_leavesOut_3 rfl 1 rfl ?_
    refine aw_get (ic := 22) (ci := 3) (k := 1) (v := .ref 17) d_NE_leavesOut_4 rfl rfl (by decide) rfl mw_124 rfl ?_
    refine aw_callV (K' := k_QU_size) (As := []) (rest := [.int (nI (t))]) (b := 17) d_NE_leavesOut_7 rfl rfl rfl cs_NE_52 rfl (Nat.le_of_ble_eq_true rfl) (Nat.le_of_ble_eq_true rfl) (by decide) (by decide) (d' := 0) (w' := 0) (by decide) (by decide) ?_
    show AW _ _ _ _ _ _ _ [(0, .ref (17))] _ _ _ _ _
    refine aw_aload_n d_QU_size_0 rfl 0 rfl ?_
    refine aw_get (ic := 17) (ci := 2) (k := 4) d_QU_size_1 rfl rfl (by decide) rfl mw_96 rfl ?_
    refine aw_eqi (nI (qn T)) qc.1 ?_
    refine aw_iret d_QU_size_4 rfl (by decide) (by decide) (ab_go1 ?_)
    refine aw_icmp_geN (tgt := 45) d_NE_leavesOut_10 (by decide) (by omega) (by omega) (fun c1 => ?_) (fun c1 => ?_)
    · skip
      refine aw_iconst (v := nI 0) d_NE_leavesOut_45 (by decide) ?_
      refine aw_zret (Or.inl rfl) d_NE_leavesOut_46 rfl (by decide) (by decide) ?_
      exact q_b (c := false) (by rw [show t = qn T by omega] at hf; exact hf) rfl hQ
    · skip
      refine aw_aload_n d_NE_leavesOut_13 rfl 1 rfl ?_
      refine aw_get (ic := 22) (ci := 3) (k := 1) (v := .ref 17) d_NE_leavesOut_14 rfl rfl (by decide) rfl mw_124 rfl ?_
      refine aw_iload_n d_NE_leavesOut_17 rfl 0 rfl ?_
      refine aw_callV (K' := k_QU_kindOf) (As := [.int (nI (t))]) (rest := []) (b := 17) d_NE_leavesOut_18 rfl rfl rfl cs_NE_58 rfl (Nat.le_of_ble_eq_true rfl) (Nat.le_of_ble_eq_true rfl) (by decide) (by decide) (d' := 0) (w' := 0) (by decide) (by decide) ?_
      show AW _ _ _ _ _ _ _ [(0, .ref (17)), (1, .int (nI (t)))] _ _ _ _ _
      refine aw_aload_n d_QU_kindOf_0 rfl 0 rfl ?_
      refine aw_get (ic := 17) (ci := 2) (k := 0) (v := .ref 18) d_QU_kindOf_1 rfl rfl (by decide) rfl mw_92 rfl ?_
      refine aw_iload_n d_QU_kindOf_4 rfl 1 rfl ?_
      refine aw_ialdN d_QU_kindOf_5 rfl (by decide) (by omega) ?_
      refine aw_eqi (nI (qk T t)) (qc.2.1 _ (by omega)) ?_
      refine aw_iret d_QU_kindOf_6 rfl (by decide) (by decide) (ab_go1 ?_)
      refine aw_bipush (v := nI 11) d_NE_leavesOut_21 (by decide) ?_
      refine aw_icmp_neN (tgt := 39) d_NE_leavesOut_23 (by decide) (by omega) (by omega) (fun c2 => ?_) (fun c2 => ?_)
      · skip
        refine aw_iinc (v := (nI (t + 1))) (lv' := [(2, .int (nI (t + 1))), (0, .ref (22)), (1, .int (nI (d)))]) d_NE_leavesOut_39 (j := 0) rfl (nI_add (t) 1) (by decide) rfl ?_
        refine aw_goto (tgt := 2) d_NE_leavesOut_42 (by decide) ?_
        exact ih _ (by omega) (t + 1) rfl (by omega) (by simp only [an]; rw [hf]; simp only [lfB]; rw [decide_eq_false c2]; rfl)
      · skip
        refine aw_aload_n d_NE_leavesOut_26 rfl 1 rfl ?_
        refine aw_iload_n d_NE_leavesOut_27 rfl 0 rfl ?_
        refine aw_iconst (v := nI 1) d_NE_leavesOut_28 (by decide) ?_
        refine aw_iaddN d_NE_leavesOut_29 ?_
        refine aw_iload_n d_NE_leavesOut_30 rfl 2 rfl ?_
        refine aw_callV (K' := k_NE_isMet) (As := [.int (nI (t + 1)), .int (nI (d))]) (rest := []) (b := 22) d_NE_leavesOut_31 rfl rfl rfl cs_NE_73 rfl (Nat.le_of_ble_eq_true rfl) (Nat.le_of_ble_eq_true rfl) (by decide) (by decide) (d' := 1) (w' := 21) (by decide) (by decide) ?_
        show AW _ _ _ _ _ _ _ [(0, .ref (22)), (1, .int (nI (t + 1))), (2, .int (nI (d)))] _ _ _ _ _
        refine A_isMet wd dc wq qc h0 hB hd hh (R22n wq h0 (by omega) (by omega)) ?_
        refine ab_go1 ?_
        refine aw_if_neB (tgt := 39) d_NE_leavesOut_34 (by decide) (fun c3 => ?_) (fun c3 => ?_)
        · skip
          refine aw_iinc (v := (nI (t + 1))) (lv' := [(2, .int (nI (t + 1))), (0, .ref (22)), (1, .int (nI (d)))]) d_NE_leavesOut_39 (j := 0) rfl (nI_add (t) 1) (by decide) rfl ?_
          refine aw_goto (tgt := 2) d_NE_leavesOut_42 (by decide) ?_
          exact ih _ (by omega) (t + 1) rfl (by omega) (by simp only [an]; rw [hf]; simp only [lfB]; rw [c3]; simp)
        · skip
          refine aw_iconst (v := nI 1) d_NE_leavesOut_37 (by decide) ?_
          refine aw_zret (Or.inr rfl) d_NE_leavesOut_38 rfl (by decide) (by decide) ?_
          exact q_b (c := true) (an_true (i := t) (by omega) (by simp only [lfB]; rw [decide_eq_true (by omega), c3]; rfl)) rfl hQ
set_option maxRecDepth 4000 in
theorem A_leavesOut {l : Launch} {M : ab_M} {Q : ab_O → ab_M → Prop} {D : Dg} {T : Qg} (wd : wD D) (dc : iDC D M) (wq : wQ T) (qc : iQC T M) (h0 : op T (qn T) = 0) {B : Nat → UInt64} (hB : ∀ i, i < qn T → M.2.1 49 i = B i ∧ f01 (B i)) {d : Nat} (hd : d < dn D) (hh : ∀ t, t < qn T → qk T t ≤ 4 → hitM T D M t) (hQ : Q (.inl (some (.int (nI (bN (outB T D B d)))))) M) : AW sys l ab_Zt k_NE_leavesOut 2 43 0 [(0, .ref (22)), (1, .int (nI (d)))] [] M 0 0 Q := by
  refine aw_iconst (v := nI 0) d_NE_leavesOut_0 (by decide) ?_
  refine aw_istore_n (lv' := [(2, .int (nI (0))), (0, .ref (22)), (1, .int (nI (d)))]) d_NE_leavesOut_1 rfl (by decide) rfl ?_
  exact A_lo_loop wd dc wq qc h0 hB hd hh hQ _ 0 rfl (by omega) rfl
