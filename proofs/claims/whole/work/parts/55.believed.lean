/-! the reference's stack of nodes (rows laid by gen/m9.py) -/
def frB (M M' : ab_M) : Prop := (∀ a i, a ≠ 66 → (a ≠ 57 ∨ (i ≠ 0 ∧ i ≠ 14 ∧ i ≠ 15)) → M'.1 a i = M.1 a i) ∧ (∀ a i, a ≠ 64 → a ≠ 65 → M'.2.1 a i = M.2.1 a i) ∧ M'.2.2 = M.2.2
theorem frB_refl (M : ab_M) : frB M M := ⟨fun _ _ _ _ => rfl, fun _ _ _ _ => rfl, rfl⟩
theorem frB_dr {D : Dg} {M M' : ab_M} (h : frB M M') (x : iDR D M) : iDR D M' := iDR_of x (h.1 _ _ (by omega) (by omega)) (fun a i h1 h2 => h.1 a i (by omega) (by omega))
theorem frB_qr {T : Qg} {M M' : ab_M} (h : frB M M') (x : iQR T M) : iQR T M' := iQR_of x (h.1 _ _ (by omega) (by omega)) (fun a i h1 h2 => ⟨h.1 a i (by omega) (by omega), h.2.1 a i (by omega) (by omega)⟩)
theorem frB_sr {S : Sg} {M M' : ab_M} (h : frB M M') (x : iSR S M) : iSR S M' := iSR_of x (fun i h1 h2 => ⟨h.1 _ i (by omega) (by omega), h.2.1 _ i (by omega) (by omega)⟩)
theorem frB_rr {R : Rg} {M M' : ab_M} (h : frB M M') (x : iRR R M) : iRR R M' := iRR_of x (fun i h1 => h.1 _ i (by omega) (by omega)) (fun a i h1 h2 => ⟨h.1 a i (by omega) (by omega), h.2.1 a i (by omega) (by omega)⟩)
theorem frB_trans {M M1 M2 : ab_M} (h : frB M M1) (k : frB M1 M2) : frB M M2 := ⟨fun a i x y => (k.1 a i x y).trans (h.1 a i x y), fun a i x y => (k.2.1 a i x y).trans (h.2.1 a i x y), k.2.2.trans h.2.2⟩
theorem sD_1 (M : ab_M) (a i : Nat) (x : UInt64) : (ab_sD M a i x).1 = M.1 := rfl
theorem sI_2 (M : ab_M) (a i : Nat) (x : Int32) : (ab_sI M a i x).2.1 = M.2.1 := rfl
def stk (S : Sg) (T : Qg) (D : Dg) (d : Nat) (M : ab_M) (j : Nat) : Prop := M.1 57 14 = nI (op T j) ∧ ∀ i, i < op T j → M.2.1 64 (op T j - (i + 1)) = bl S T D d (qn T - j) (itE (en T) i j) ∧ M.2.1 65 (op T j - (i + 1)) = qw T (itE (en T) i j) ∧ M.1 66 (op T j - (i + 1)) = nI (itE (en T) i j)
theorem itE_sh {T : Qg} (wq : wQ T) (h0 : op T (qn T) = 0) {t : Nat} (ht : t < qn T) (j : Nat) : itE (en T) (j + 1) t = itE (en T) (prt T t + j) (t + 1) := by
  rw [Nat.add_comm j 1, itE_add (en T) t 1 j]
  show itE (en T) j (en T t) = _
  rw [en_at wq h0 ht, itE_add]
theorem stk_step {S : Sg} {T : Qg} {D : Dg} {d jp : Nat} {M M' : ab_M} (wq : wQ T) (h0 : op T (qn T) = 0) (hj : jp < qn T) (h : stk S T D d M (jp + 1)) (e14 : M'.1 57 14 = nI (op T jp)) (e64 : ∀ x, M'.2.1 64 x = if x = op T jp - 1 then stD S T D d (bl S T D d (qn T - (jp + 1))) jp else M.2.1 64 x) (e65 : ∀ x, M'.2.1 65 x = if x = op T jp - 1 then qw T jp else M.2.1 65 x) (e66 : ∀ x, M'.1 66 x = if x = op T jp - 1 then nI jp else M.1 66 x) : stk S T D d M' jp := by
  have hp := wq.2.2.1 jp hj
  have hs := op_succ hp
  refine ⟨e14, fun i hi => ?_⟩
  rw [e64, e65, e66]
  cases i with
  | zero =>
    rw [if_pos rfl, if_pos rfl, if_pos rfl, show qn T - jp = qn T - (jp + 1) + 1 by omega]
    have := bl_here (S := S) (T := T) (D := D) (d := d) (k := qn T - (jp + 1))
    rw [show qn T - 1 - (qn T - (jp + 1)) = jp by omega] at this
    exact ⟨this.symm, rfl, rfl⟩
  | succ i =>
    have e : op T (jp + 1) - (prt T jp + i + 1) = op T jp - (i + 1 + 1) := by omega
    have hc := (en_chain wq h0 (t := jp + 1) (by omega)).1 (prt T jp + i) (by omega)
    obtain ⟨q1, q2, q3⟩ := h.2 (prt T jp + i) (by omega)
    rw [e] at q1 q2 q3
    rw [if_neg (by omega), if_neg (by omega), if_neg (by omega), q1, q2, q3, itE_sh wq h0 hj, show qn T - jp = qn T - (jp + 1) + 1 by omega, bl_off (by omega)]
    exact ⟨rfl, rfl, rfl⟩
theorem op_24 {T : Qg} (wq : wQ T) (h0 : op T (qn T) = 0) {t : Nat} (ht : t ≤ qn T) : op T t + t ≤ qn T := by
  have hc := en_chain wq h0 ht
  have key : ∀ j, j ≤ op T t → t + j ≤ itE (en T) j t := by
    intro j
    induction j with
    | zero => intro _; exact Nat.le_refl _
    | succ j ih =>
      intro hj
      have h1 := ih (by omega)
      have h2 := hc.1 j (by omega)
      have h3 : itE (en T) j t < en T (itE (en T) j t) := by
        rw [en_at wq h0 h2.2]
        exact (pa_le wq h0 h2.2 (Nat.le_refl _)).1
      show t + (j + 1) ≤ en T (itE (en T) j t)
      omega
  have := key (op T t) (Nat.le_refl _)
  rw [hc.2] at this
  omega
theorem bl_fix {S : Sg} {T : Qg} {D : Dg} {d i : Nat} : ∀ m k, k + m = qn T → qn T - k ≤ i → bl S T D d k i = bl S T D d (qn T) i
  | 0, k, h, _ => by rw [show k = qn T by omega]
  | m + 1, k, h, hi => by
    rw [← bl_fix m (k + 1) (by omega) (by omega), bl_off (by omega)]
theorem anF_pre {f : Nat → Bool} {a : Nat} : ∀ n, a < n → anF f a n = (f a || anF f (a + 1) n)
  | 0, h => by omega
  | n + 1, h => by
    by_cases e : a = n
    · subst e
      rw [anF_here (Nat.le_refl _), anF_start (Nat.le_refl _), anF_start (a := a + 1) (Nat.le_refl _)]; simp
    · rw [anF_here (by omega), anF_here (by omega), anF_pre n (by omega), Bool.or_assoc]
theorem anF_0 {f : Nat → Bool} {n : Nat} : anF f 0 n = an f n := an_congr n (fun i _ => by simp)
theorem met_lo {T : Qg} {D : Dg} {B : Nat → UInt64} {d t : Nat} (h : qk T t ≤ 4) : metB T D B d t = decide (0 < bsn (hitB T D t d) (dl D d)) := by
  simp only [metB]
  rw [if_pos h]
  have hz := bsn_zero (f := hitB T D t d) (n := dl D d)
  by_cases e : bsn (hitB T D t d) (dl D d) = 0
  · rw [e, decide_eq_false (by simp only [tfT]; have := hz.mp e; omega)]; rfl
  · have : ¬ cn (hitB T D t d) (dl D d) = 0 := fun h => e (hz.mpr h)
    rw [decide_eq_true (by simp only [tfT]; omega), decide_eq_true (by omega)]
theorem met_hi {T : Qg} {D : Dg} {B : Nat → UInt64} {d t : Nat} (h : 4 < qk T t) : metB T D B d t = decide (fz 4602678819172646912 < fz (B t)) := by simp only [metB]; rw [if_neg (by omega)]
theorem or_b1 (b : Bool) : nI (bN b) ||| nI 1 = nI (bN true) := by cases b <;> decide
theorem or_b0 (b : Bool) : nI (bN b) ||| nI 0 = nI (bN b) := by cases b <;> decide
def oB (S : Sg) (T : Qg) (D : Dg) (d : Nat) : Nat → Bool := lfB T D (bl S T D d (qn T)) d
theorem oB_yes {S : Sg} {T : Qg} {D : Dg} {d t : Nat} (h : qk T t = 11) (hm : metB T D (bl S T D d (qn T)) d (t + 1) = false) : oB S T D d t = true := by simp only [oB, lfB]; rw [decide_eq_true h, hm]; rfl
theorem oB_no {S : Sg} {T : Qg} {D : Dg} {d t : Nat} (hm : metB T D (bl S T D d (qn T)) d (t + 1) = true) : oB S T D d t = false := by simp only [oB, lfB]; rw [hm]; simp
theorem oB_k {S : Sg} {T : Qg} {D : Dg} {d t : Nat} (h : qk T t ≠ 11) : oB S T D d t = false := by simp only [oB, lfB]; rw [decide_eq_false h]; rfl

set_option maxRecDepth 4000 in
theorem B_bel_tail {l : Launch} {M : ab_M} {Q : ab_O → ab_M → Prop} {D : Dg} {T : Qg} {S : Sg} (wd : wD D) (dr : iDR D M) (wq : wQ T) (qr : iQR T M) (ws : wS S) (sr : iSR S M) (h0 : op T (qn T) = 0) {d : Nat} (hd : d < dn D) (hl : 0 < dl D d) {jp : Nat} {x5 : Int32} (hj : jp < qn T) (hs : stk S T D d M (jp + 1)) (hK : ∀ M', frB M M' → M'.1 57 15 = M.1 57 15 → M'.1 57 0 = M.1 57 0 → stk S T D d M' jp → AW sys l ab_Zt k_MO_believed 4 102 17 [(2, .int (nI jp - nI 1)), (0, .ref 57), (1, .int (nI d))] [] M' 0 0 Q) : AW sys l ab_Zt k_MO_believed 4 102 124 [(5, .int (x5)), (4, .int (nI (qk T jp))), (3, .int (nI (prt T jp))), (2, .int (nI (jp))), (0, .ref (57)), (1, .int (nI (d)))] [] M 0 0 Q := by
  have h24 := wq.1
  have h12 := wd.1
  have hg := wq.2.1 jp hj
  have hk11 := hg.1
  have hp4 := prt_le hg
  have hop := wq.2.2.1 jp hj
  have hos := op_succ hop
  have ho24 := op_24 wq h0 (t := jp + 1) (by omega)
  have hpp : 4 < qk T jp → 0 < prt T jp ∧ (10 < qk T jp → prt T jp = 2) := fun h => prt_pos hg (by omega)
  refine aw_iload d_MO_believed_124 1 rfl ?_
  refine aw_iconst (v := nI 4) d_MO_believed_126 (by decide) ?_
  refine aw_icmp_gtN (tgt := 139) d_MO_believed_127 (by decide) (by omega) (by omega) (fun c1 => ?_) (fun c1 => ?_)
  · skip
    refine aw_aload_n d_MO_believed_139 rfl 4 rfl ?_
    refine aw_iload_n d_MO_believed_140 rfl 3 rfl ?_
    refine aw_iload_n d_MO_believed_141 rfl 2 rfl ?_
    refine aw_callV (K' := k_MO_joined) (As := [.int (nI (jp)), .int (nI (prt T jp))]) (rest := []) (b := 57) d_MO_believed_142 rfl rfl rfl cs_MO_139 rfl (Nat.le_of_ble_eq_true rfl) (Nat.le_of_ble_eq_true rfl) (by decide) (by decide) (d' := 1) (w' := 25) (by decide) (by decide) ?_
    show AW _ _ _ _ _ _ _ [(0, .ref (57)), (1, .int (nI (jp))), (2, .int (nI (prt T jp)))] _ _ _ _ _
    refine B_joined (b := bP T (bl S T D d (qn T - (jp + 1))) jp) (w := wP T jp) wq qr hj (hpp (by omega)).1 hp4 (by omega) (fun h => by rw [(hpp (by omega)).2 h]; omega) hs.1 (by omega) (by omega) (fun j h => (hs.2 j (by omega)).1) (fun j h => (hs.2 j (by omega)).2.1) (bP_ok wq h0 hj (fun i h1 h2 => bl_01 ws wd wq h0 hd hl _ (by omega) i (by omega) h2)) (wP_ok wq h0 hj) ?_
    rw [show jnD (qk T jp) (prt T jp) (bP T (bl S T D d (qn T - (jp + 1))) jp) (wP T jp) = stD S T D d (bl S T D d (qn T - (jp + 1))) jp by simp only [stD]; rw [if_neg (by omega)]; rfl]
    refine ab_go1 ?_
    refine aw_dstore (lv' := [(6, .double (stD S T D d (bl S T D d (qn T - (jp + 1))) jp)), (5, .int (x5)), (4, .int (nI (qk T jp))), (3, .int (nI (prt T jp))), (2, .int (nI (jp))), (0, .ref (57)), (1, .int (nI (d)))]) d_MO_believed_145 (by decide) rfl ?_
    refine aw_aload_n d_MO_believed_147 rfl 5 rfl ?_
    refine aw_dup d_MO_believed_148 rfl ?_
    refine aw_get (ic := 57) (ci := 6) (k := 14) d_MO_believed_149 rfl rfl (by decide) rfl mw_789 rfl ?_
    refine aw_eqi (nI (op T (jp + 1))) hs.1 ?_
    refine aw_iload_n d_MO_believed_152 rfl 3 rfl ?_
    refine aw_isubN d_MO_believed_153 (by omega) ?_
    refine aw_putI (ic := 57) (ci := 6) (k := 14) d_MO_believed_154 rfl rfl (by decide) rfl rfl rfl mw_789 ?_
    refine aw_aload_n d_MO_believed_157 rfl 5 rfl ?_
    refine aw_get (ic := 57) (ci := 6) (k := 11) (v := .ref 64) d_MO_believed_158 rfl rfl (by decide) rfl mw_786 rfl ?_
    refine aw_aload_n d_MO_believed_161 rfl 5 rfl ?_
    refine aw_get (ic := 57) (ci := 6) (k := 14) d_MO_believed_162 rfl rfl (by decide) rfl mw_789 rfl ?_
    refine aw_eqi (nI (op T jp - 1)) (by rw [sI_hit]; congr 1; omega) ?_
    refine aw_dload d_MO_believed_165 0 rfl ?_
    refine aw_dastN d_MO_believed_167 rfl (by decide) (by omega) ?_
    refine aw_aload_n d_MO_believed_168 rfl 5 rfl ?_
    refine aw_get (ic := 57) (ci := 6) (k := 12) (v := .ref 65) d_MO_believed_169 rfl rfl (by decide) rfl mw_787 rfl ?_
    refine aw_aload_n d_MO_believed_172 rfl 5 rfl ?_
    refine aw_get (ic := 57) (ci := 6) (k := 14) d_MO_believed_173 rfl rfl (by decide) rfl mw_789 rfl ?_
    refine aw_eqi (nI (op T jp - 1)) (by simp only [sD_1]; rw [sI_hit]; congr 1; omega) ?_
    refine aw_aload_n d_MO_believed_176 rfl 5 rfl ?_
    refine aw_get (ic := 57) (ci := 6) (k := 7) (v := .ref 63) d_MO_believed_177 rfl rfl (by decide) rfl mw_782 rfl ?_
    refine aw_iload_n d_MO_believed_180 rfl 4 rfl ?_
    refine aw_daldN d_MO_believed_181 rfl (by decide) (by omega) ?_
    refine aw_eqd (qw T jp) (qr.2.2.2 jp hj) ?_
    refine aw_dastN d_MO_believed_182 rfl (by decide) (by omega) ?_
    refine aw_aload_n d_MO_believed_183 rfl 5 rfl ?_
    refine aw_get (ic := 57) (ci := 6) (k := 13) (v := .ref 66) d_MO_believed_184 rfl rfl (by decide) rfl mw_788 rfl ?_
    refine aw_aload_n d_MO_believed_187 rfl 5 rfl ?_
    refine aw_get (ic := 57) (ci := 6) (k := 14) d_MO_believed_188 rfl rfl (by decide) rfl mw_789 rfl ?_
    refine aw_eqi (nI (op T jp - 1)) (by simp only [sD_1]; rw [sI_hit]; congr 1; omega) ?_
    refine aw_iload_n d_MO_believed_191 rfl 4 rfl ?_
    refine aw_iastN d_MO_believed_192 rfl (by decide) (by omega) ?_
    refine aw_aload_n d_MO_believed_193 rfl 5 rfl ?_
    refine aw_dup d_MO_believed_194 rfl ?_
    refine aw_get (ic := 57) (ci := 6) (k := 14) d_MO_believed_195 rfl rfl (by decide) rfl mw_789 rfl ?_
    refine aw_eqi (nI (op T jp - 1)) (by rw [sI_ne (by omega)]; simp only [sD_1]; rw [sI_hit]; congr 1; omega) ?_
    refine aw_iconst (v := nI 1) d_MO_believed_198 (by decide) ?_
    refine aw_iaddN d_MO_believed_199 ?_
    refine aw_putI (ic := 57) (ci := 6) (k := 14) d_MO_believed_200 rfl rfl (by decide) rfl rfl rfl mw_789 ?_
    refine aw_iinc (v := (nI (jp) - nI 1)) (lv' := [(2, .int (nI (jp) - nI 1)), (6, .double (stD S T D d (bl S T D d (qn T - (jp + 1))) jp)), (5, .int (x5)), (4, .int (nI (qk T jp))), (3, .int (nI (prt T jp))), (0, .ref (57)), (1, .int (nI (d)))]) d_MO_believed_203 (j := 4) rfl (nI_dm (jp)) (by decide) rfl ?_
    refine aw_goto (tgt := 17) d_MO_believed_206 (by decide) ?_
    refine aw_pick [0, 5, 6] rfl ?_
    refine hK _ ?_ ?_ ?_ ?_
    · exact ⟨fun a i h1 h2 => by rw [sI_ne (by omega), sI_ne (by omega)]; simp only [sD_1]; rw [sI_ne (by omega)], fun a i h1 h2 => by show (ab_sD (ab_sD _ _ _ _) _ _ _).2.1 _ _ = _; rw [sD_ne (Or.inl h2), sD_ne (Or.inl h1)]; rfl, rfl⟩
    · rw [sI_ne (by omega), sI_ne (by omega)]; simp only [sD_1]; rw [sI_ne (by omega)]
    · rw [sI_ne (by omega), sI_ne (by omega)]; simp only [sD_1]; rw [sI_ne (by omega)]
    · refine stk_step wq h0 hj hs ?_ ?_ ?_ ?_
      · rw [sI_hit]; congr 1; omega
      · intro x; show (ab_sD (ab_sD _ _ _ _) _ _ _).2.1 _ _ = _; rw [sD_ne (Or.inl (by omega))]; split; · rename_i h; rw [h, sD_hit]
        rw [sD_ne (by omega)]; rfl
      · intro x; show (ab_sD (ab_sD _ _ _ _) _ _ _).2.1 _ _ = _; split; · rename_i h; rw [h, sD_hit]
        rw [sD_ne (by omega), sD_ne (Or.inl (by omega))]; rfl
      · intro x; rw [sI_ne (by omega)]; split; · rename_i h; rw [h, sI_hit]
        rw [sI_ne (by omega)]; simp only [sD_1]; rw [sI_ne (by omega)]
  · skip
    refine aw_aload_n d_MO_believed_130 rfl 4 rfl ?_
    refine aw_iload_n d_MO_believed_131 rfl 3 rfl ?_
    refine aw_iload_n d_MO_believed_132 rfl 5 rfl ?_
    refine aw_callV (K' := k_MO_plain) (As := [.int (nI (jp)), .int (nI (d))]) (rest := []) (b := 57) d_MO_believed_133 rfl rfl rfl cs_MO_135 rfl (Nat.le_of_ble_eq_true rfl) (Nat.le_of_ble_eq_true rfl) (by decide) (by decide) (d' := 3) (w' := 74) (by decide) (by decide) ?_
    show AW _ _ _ _ _ _ _ [(0, .ref (57)), (1, .int (nI (jp))), (2, .int (nI (d)))] _ _ _ _ _
    refine B_plain wd dr wq qr ws sr h0 hj (by omega) hd hl ?_
    rw [show plD S T D jp d = stD S T D d (bl S T D d (qn T - (jp + 1))) jp by simp only [stD]; rw [if_pos (by omega)]]
    refine ab_go1 ?_
    refine aw_goto (tgt := 145) d_MO_believed_136 (by decide) ?_
    refine aw_dstore (lv' := [(6, .double (stD S T D d (bl S T D d (qn T - (jp + 1))) jp)), (5, .int (x5)), (4, .int (nI (qk T jp))), (3, .int (nI (prt T jp))), (2, .int (nI (jp))), (0, .ref (57)), (1, .int (nI (d)))]) d_MO_believed_145 (by decide) rfl ?_
    refine aw_aload_n d_MO_believed_147 rfl 5 rfl ?_
    refine aw_dup d_MO_believed_148 rfl ?_
    refine aw_get (ic := 57) (ci := 6) (k := 14) d_MO_believed_149 rfl rfl (by decide) rfl mw_789 rfl ?_
    refine aw_eqi (nI (op T (jp + 1))) hs.1 ?_
    refine aw_iload_n d_MO_believed_152 rfl 3 rfl ?_
    refine aw_isubN d_MO_believed_153 (by omega) ?_
    refine aw_putI (ic := 57) (ci := 6) (k := 14) d_MO_believed_154 rfl rfl (by decide) rfl rfl rfl mw_789 ?_
    refine aw_aload_n d_MO_believed_157 rfl 5 rfl ?_
    refine aw_get (ic := 57) (ci := 6) (k := 11) (v := .ref 64) d_MO_believed_158 rfl rfl (by decide) rfl mw_786 rfl ?_
    refine aw_aload_n d_MO_believed_161 rfl 5 rfl ?_
    refine aw_get (ic := 57) (ci := 6) (k := 14) d_MO_believed_162 rfl rfl (by decide) rfl mw_789 rfl ?_
    refine aw_eqi (nI (op T jp - 1)) (by rw [sI_hit]; congr 1; omega) ?_
    refine aw_dload d_MO_believed_165 0 rfl ?_
    refine aw_dastN d_MO_believed_167 rfl (by decide) (by omega) ?_
    refine aw_aload_n d_MO_believed_168 rfl 5 rfl ?_
    refine aw_get (ic := 57) (ci := 6) (k := 12) (v := .ref 65) d_MO_believed_169 rfl rfl (by decide) rfl mw_787 rfl ?_
    refine aw_aload_n d_MO_believed_172 rfl 5 rfl ?_
    refine aw_get (ic := 57) (ci := 6) (k := 14) d_MO_believed_173 rfl rfl (by decide) rfl mw_789 rfl ?_
    refine aw_eqi (nI (op T jp - 1)) (by simp only [sD_1]; rw [sI_hit]; congr 1; omega) ?_
    refine aw_aload_n d_MO_believed_176 rfl 5 rfl ?_
    refine aw_get (ic := 57) (ci := 6) (k := 7) (v := .ref 63) d_MO_believed_177 rfl rfl (by decide) rfl mw_782 rfl ?_
    refine aw_iload_n d_MO_believed_180 rfl 4 rfl ?_
    refine aw_daldN d_MO_believed_181 rfl (by decide) (by omega) ?_
    refine aw_eqd (qw T jp) (qr.2.2.2 jp hj) ?_
    refine aw_dastN d_MO_believed_182 rfl (by decide) (by omega) ?_
    refine aw_aload_n d_MO_believed_183 rfl 5 rfl ?_
    refine aw_get (ic := 57) (ci := 6) (k := 13) (v := .ref 66) d_MO_believed_184 rfl rfl (by decide) rfl mw_788 rfl ?_
    refine aw_aload_n d_MO_believed_187 rfl 5 rfl ?_
    refine aw_get (ic := 57) (ci := 6) (k := 14) d_MO_believed_188 rfl rfl (by decide) rfl mw_789 rfl ?_
    refine aw_eqi (nI (op T jp - 1)) (by simp only [sD_1]; rw [sI_hit]; congr 1; omega) ?_
    refine aw_iload_n d_MO_believed_191 rfl 4 rfl ?_
    refine aw_iastN d_MO_believed_192 rfl (by decide) (by omega) ?_
    refine aw_aload_n d_MO_believed_193 rfl 5 rfl ?_
    refine aw_dup d_MO_believed_194 rfl ?_
    refine aw_get (ic := 57) (ci := 6) (k := 14) d_MO_believed_195 rfl rfl (by decide) rfl mw_789 rfl ?_
    refine aw_eqi (nI (op T jp - 1)) (by rw [sI_ne (by omega)]; simp only [sD_1]; rw [sI_hit]; congr 1; omega) ?_
    refine aw_iconst (v := nI 1) d_MO_believed_198 (by decide) ?_
    refine aw_iaddN d_MO_believed_199 ?_
    refine aw_putI (ic := 57) (ci := 6) (k := 14) d_MO_believed_200 rfl rfl (by decide) rfl rfl rfl mw_789 ?_
    refine aw_iinc (v := (nI (jp) - nI 1)) (lv' := [(2, .int (nI (jp) - nI 1)), (6, .double (stD S T D d (bl S T D d (qn T - (jp + 1))) jp)), (5, .int (x5)), (4, .int (nI (qk T jp))), (3, .int (nI (prt T jp))), (0, .ref (57)), (1, .int (nI (d)))]) d_MO_believed_203 (j := 4) rfl (nI_dm (jp)) (by decide) rfl ?_
    refine aw_goto (tgt := 17) d_MO_believed_206 (by decide) ?_
    refine aw_pick [0, 5, 6] rfl ?_
    refine hK _ ?_ ?_ ?_ ?_
    · exact ⟨fun a i h1 h2 => by rw [sI_ne (by omega), sI_ne (by omega)]; simp only [sD_1]; rw [sI_ne (by omega)], fun a i h1 h2 => by show (ab_sD (ab_sD _ _ _ _) _ _ _).2.1 _ _ = _; rw [sD_ne (Or.inl h2), sD_ne (Or.inl h1)]; rfl, rfl⟩
    · rw [sI_ne (by omega), sI_ne (by omega)]; simp only [sD_1]; rw [sI_ne (by omega)]
    · rw [sI_ne (by omega), sI_ne (by omega)]; simp only [sD_1]; rw [sI_ne (by omega)]
    · refine stk_step wq h0 hj hs ?_ ?_ ?_ ?_
      · rw [sI_hit]; congr 1; omega
      · intro x; show (ab_sD (ab_sD _ _ _ _) _ _ _).2.1 _ _ = _; rw [sD_ne (Or.inl (by omega))]; split; · rename_i h; rw [h, sD_hit]
        rw [sD_ne (by omega)]; rfl
      · intro x; show (ab_sD (ab_sD _ _ _ _) _ _ _).2.1 _ _ = _; split; · rename_i h; rw [h, sD_hit]
        rw [sD_ne (by omega), sD_ne (Or.inl (by omega))]; rfl
      · intro x; rw [sI_ne (by omega)]; split; · rename_i h; rw [h, sI_hit]
        rw [sI_ne (by omega)]; simp only [sD_1]; rw [sI_ne (by omega)]
set_option maxRecDepth 4000 in
theorem B_bel_loop {l : Launch} {M : ab_M} {Q : ab_O → ab_M → Prop} {D : Dg} {T : Qg} {S : Sg} (wd : wD D) (dr : iDR D M) (wq : wQ T) (qr : iQR T M) (ws : wS S) (sr : iSR S M) (h0 : op T (qn T) = 0) {d : Nat} (hd : d < dn D) (hl : 0 < dl D d) (hQ : ∀ M', frB M M' → M'.1 57 0 = M.1 57 0 → M'.1 57 15 = nI (bN (outB T D (bl S T D d (qn T)) d)) → Q (.inl (some (.double (bl S T D d (qn T) 0)))) M') : ∀ (mm : Nat) (j : Nat) (M1 : ab_M), j = mm → (hjq : j ≤ qn T) → (hf : frB M M1) → (hz : M1.1 57 0 = M.1 57 0) → (ho : M1.1 57 15 = nI (bN (anF (oB S T D d) j (qn T)))) → (hs : stk S T D d M1 j) → AW sys l ab_Zt k_MO_believed 4 102 17 [(2, .int (nI (j) - nI 1)), (0, .ref (57)), (1, .int (nI (d)))] [] M1 0 0 Q := by
  intro mm
  induction mm using Nat.strongRecOn with
  | ind mm ih =>
    intro j M1 hk hjq hf hz ho hs
    have h24 := wq.1
    have h12 := wd.1
    have dr1 := frB_dr hf dr
    have qr1 := frB_qr hf qr
    have sr1 := frB_sr hf sr
    refine aw_iload_n d_MO_believed_17 rfl 0 rfl ?_
    refine aw_if_ltM (tgt := 209) d_MO_believed_18 (by decide) (fun c1 => ?_) (fun c1 => ?_)
    · skip
      have hb0 : M1.2.1 64 0 = bl S T D d (qn T) 0 := by have := (hs.2 0 (by rw [show j = 0 by omega]; show 0 < 1; omega)).1; rw [show j = 0 by omega] at this; exact this
      refine aw_aload_n d_MO_believed_209 rfl 1 rfl ?_
      refine aw_get (ic := 57) (ci := 6) (k := 11) (v := .ref 64) d_MO_believed_210 rfl rfl (by decide) rfl mw_786 rfl ?_
      refine aw_iconst (v := nI 0) d_MO_believed_213 (by decide) ?_
      refine aw_daldN d_MO_believed_214 rfl (by decide) (by omega) ?_
      refine aw_eqd (bl S T D d (qn T) 0) hb0 ?_
      refine aw_dret d_MO_believed_215 rfl (by decide) (by decide) ?_
      exact hQ M1 hf hz (by rw [ho, show j = 0 by omega, anF_0]; rfl)
    · skip
      obtain ⟨jp, rfl⟩ : ∃ jp, j = jp + 1 := ⟨j - 1, by omega⟩
      rw [nI_m1 jp]
      have hj : jp < qn T := by omega
      have hg := wq.2.1 jp hj
      have hk11 := hg.1
      have hp4 := prt_le hg
      have hos := op_succ (wq.2.2.1 jp hj)
      have hop := wq.2.2.1 jp hj
      have ho24 := op_24 wq h0 (t := jp + 1) (by omega)
      refine aw_aload_n d_MO_believed_21 rfl 1 rfl ?_
      refine aw_iload_n d_MO_believed_22 rfl 0 rfl ?_
      refine aw_callV (K' := k_MO_partsOf) (As := [.int (nI (jp))]) (rest := []) (b := 57) d_MO_believed_23 rfl rfl rfl cs_MO_71 rfl (Nat.le_of_ble_eq_true rfl) (Nat.le_of_ble_eq_true rfl) (by decide) (by decide) (d' := 0) (w' := 0) (by decide) (by decide) ?_
      show AW _ _ _ _ _ _ _ [(0, .ref (57)), (1, .int (nI (jp)))] _ _ _ _ _
      refine B_partsOf wq qr1 (by omega) ?_
      refine ab_go1 ?_
      refine aw_istore_n (lv' := [(3, .int (nI (prt T jp))), (2, .int (nI (jp))), (0, .ref (57)), (1, .int (nI (d)))]) d_MO_believed_26 rfl (by decide) rfl ?_
      refine aw_aload_n d_MO_believed_27 rfl 2 rfl ?_
      refine aw_get (ic := 57) (ci := 6) (k := 5) (v := .ref 61) d_MO_believed_28 rfl rfl (by decide) rfl mw_780 rfl ?_
      refine aw_iload_n d_MO_believed_31 rfl 1 rfl ?_
      refine aw_ialdN d_MO_believed_32 rfl (by decide) (by omega) ?_
      refine aw_eqi (nI (qk T jp)) (qr1.2.1 _ (by omega)) ?_
      refine aw_istore (lv' := [(4, .int (nI (qk T jp))), (3, .int (nI (prt T jp))), (2, .int (nI (jp))), (0, .ref (57)), (1, .int (nI (d)))]) d_MO_believed_33 (by decide) rfl ?_
      refine aw_iload_n d_MO_believed_35 rfl 1 rfl ?_
      refine aw_if_leN (tgt := 53) d_MO_believed_36 (by decide) (by omega) (fun c2 => ?_) (fun c2 => ?_)
      · skip
        refine aw_iconst (v := nI 0) d_MO_believed_53 (by decide) ?_
        refine aw_istore (lv' := [(5, .int (nI (0))), (4, .int (nI (qk T jp))), (3, .int (nI (prt T jp))), (2, .int (nI (jp))), (0, .ref (57)), (1, .int (nI (d)))]) d_MO_believed_54 (by decide) rfl ?_
        refine aw_iload d_MO_believed_56 1 rfl ?_
        refine aw_bipush (v := nI 11) d_MO_believed_58 (by decide) ?_
        refine aw_icmp_neN (tgt := 124) d_MO_believed_60 (by decide) (by omega) (by omega) (fun c3 => ?_) (fun c3 => ?_)
        · skip
          refine B_bel_tail wd dr1 wq qr1 ws sr1 h0 hd hl hj hs (fun M' f9 o9 z9 s9 => ih _ (by omega) jp M' rfl (by omega) (frB_trans hf f9) (z9.trans hz) (by rw [o9, ho, anF_pre _ hj, oB_k (by omega), Bool.false_or]) s9)
        · skip
          exfalso; rw [prt_2 (by omega)] at c2; omega
      · skip
        refine aw_aload_n d_MO_believed_39 rfl 3 rfl ?_
        refine aw_get (ic := 57) (ci := 6) (k := 13) (v := .ref 66) d_MO_believed_40 rfl rfl (by decide) rfl mw_788 rfl ?_
        refine aw_aload_n d_MO_believed_43 rfl 3 rfl ?_
        refine aw_get (ic := 57) (ci := 6) (k := 14) d_MO_believed_44 rfl rfl (by decide) rfl mw_789 rfl ?_
        refine aw_eqi (nI (op T (jp + 1))) hs.1 ?_
        refine aw_iconst (v := nI 1) d_MO_believed_47 (by decide) ?_
        refine aw_isubN d_MO_believed_48 (by omega) ?_
        refine aw_ialdN d_MO_believed_49 rfl (by decide) (by omega) ?_
        refine aw_eqi (nI (jp + 1)) (hs.2 0 (by omega)).2.2 ?_
        refine aw_goto (tgt := 54) d_MO_believed_50 (by decide) ?_
        refine aw_istore (lv' := [(5, .int (nI (jp + 1))), (4, .int (nI (qk T jp))), (3, .int (nI (prt T jp))), (2, .int (nI (jp))), (0, .ref (57)), (1, .int (nI (d)))]) d_MO_believed_54 (by decide) rfl ?_
        refine aw_iload d_MO_believed_56 1 rfl ?_
        refine aw_bipush (v := nI 11) d_MO_believed_58 (by decide) ?_
        refine aw_icmp_neN (tgt := 124) d_MO_believed_60 (by decide) (by omega) (by omega) (fun c4 => ?_) (fun c4 => ?_)
        · skip
          refine B_bel_tail wd dr1 wq qr1 ws sr1 h0 hd hl hj hs (fun M' f9 o9 z9 s9 => ih _ (by omega) jp M' rfl (by omega) (frB_trans hf f9) (z9.trans hz) (by rw [o9, ho, anF_pre _ hj, oB_k (by omega), Bool.false_or]) s9)
        · skip
          have hj1 : jp + 1 < qn T := R22n wq h0 hj (by omega)
          have hk12 := (wq.2.1 (jp + 1) hj1).1
          have hb9 := bsn_lt (hitB T D (jp + 1) d) (dl D d)
          have hb8 : 2 ^ dl D d ≤ 2 ^ 24 := Nat.pow_le_pow_right (by omega) (wd.2.1 d)
          refine aw_aload_n d_MO_believed_63 rfl 4 rfl ?_
          refine aw_dup d_MO_believed_64 rfl ?_
          refine aw_get (ic := 57) (ci := 6) (k := 15) d_MO_believed_65 rfl rfl (by decide) rfl mw_790 rfl ?_
          refine aw_eqi (nI (bN (anF (oB S T D d) (jp + 1) (qn T)))) ho ?_
          refine aw_aload_n d_MO_believed_68 rfl 4 rfl ?_
          refine aw_get (ic := 57) (ci := 6) (k := 5) (v := .ref 61) d_MO_believed_69 rfl rfl (by decide) rfl mw_780 rfl ?_
          refine aw_iload d_MO_believed_72 0 rfl ?_
          refine aw_ialdN d_MO_believed_74 rfl (by decide) (by omega) ?_
          refine aw_eqi (nI (qk T (jp + 1))) (qr1.2.1 _ (by omega)) ?_
          refine aw_iconst (v := nI 4) d_MO_believed_75 (by decide) ?_
          refine aw_icmp_gtN (tgt := 97) d_MO_believed_76 (by decide) (by omega) (by omega) (fun c5 => ?_) (fun c5 => ?_)
          · skip
            refine aw_aload_n d_MO_believed_97 rfl 4 rfl ?_
            refine aw_get (ic := 57) (ci := 6) (k := 11) (v := .ref 64) d_MO_believed_98 rfl rfl (by decide) rfl mw_786 rfl ?_
            refine aw_aload_n d_MO_believed_101 rfl 4 rfl ?_
            refine aw_get (ic := 57) (ci := 6) (k := 14) d_MO_believed_102 rfl rfl (by decide) rfl mw_789 rfl ?_
            refine aw_eqi (nI (op T (jp + 1))) hs.1 ?_
            refine aw_iconst (v := nI 1) d_MO_believed_105 (by decide) ?_
            refine aw_isubN d_MO_believed_106 (by omega) ?_
            refine aw_daldN d_MO_believed_107 rfl (by decide) (by omega) ?_
            refine aw_eqd (bl S T D d (qn T - (jp + 1)) (jp + 1)) (hs.2 0 (by omega)).1 ?_
            refine aw_ldc2d (v := 4602678819172646912) d_MO_believed_108 mw_917 ?_
            refine aw_dcmp d_MO_believed_111 ?_
            refine ad_gt (bl_01 ws wd wq h0 hd hl _ (by omega) (jp + 1) (by omega) hj1).1.n fF_05.n d_MO_believed_112 (tgt := 119) (by decide) (fun c6 => ?_) (fun c6 => ?_)
            · skip
              refine aw_iconst (v := nI 0) d_MO_believed_119 (by decide) ?_
              refine aw_ior d_MO_believed_120 ?_
              refine aw_eqi (nI (bN (anF (oB S T D d) jp (qn T)))) (by rw [or_b0, anF_pre _ hj, oB_no (by rw [met_hi (by omega), ← bl_fix (jp + 1 - (jp + 1) + jp + 1) (qn T - (jp + 1)) (by omega) (by omega), decide_eq_true (by omega)]), Bool.false_or]) ?_
              refine aw_putZ (ic := 57) (ci := 6) (k := 15) (nI_b _) d_MO_believed_121 rfl rfl (by decide) rfl rfl rfl mw_790 ?_
              have f8 : frB M1 (ab_sI M1 57 15 (nI (bN (anF (oB S T D d) jp (qn T))))) := ⟨fun a i h1 h2 => sI_ne (by omega), fun _ _ _ _ => rfl, rfl⟩
              refine B_bel_tail wd (frB_dr f8 dr1) wq (frB_qr f8 qr1) ws (frB_sr f8 sr1) h0 hd hl hj ⟨by rw [sI_ne (by omega)]; exact hs.1, fun i hi => by have := hs.2 i hi; rw [sI_ne (by omega)]; exact this⟩ (fun M' f9 o9 z9 s9 => ih _ (by omega) jp M' rfl (by omega) (frB_trans hf (frB_trans f8 f9)) (by rw [z9, sI_ne (by omega)]; exact hz) (by rw [o9, sI_hit]) s9)
            · skip
              refine aw_iconst (v := nI 1) d_MO_believed_115 (by decide) ?_
              refine aw_goto (tgt := 120) d_MO_believed_116 (by decide) ?_
              refine aw_ior d_MO_believed_120 ?_
              refine aw_eqi (nI (bN (anF (oB S T D d) jp (qn T)))) (by rw [or_b1, anF_pre _ hj, oB_yes (by omega) (by rw [met_hi (by omega), ← bl_fix (jp + 1 - (jp + 1) + jp + 1) (qn T - (jp + 1)) (by omega) (by omega), decide_eq_false (by omega)])]; rfl) ?_
              refine aw_putZ (ic := 57) (ci := 6) (k := 15) (nI_b _) d_MO_believed_121 rfl rfl (by decide) rfl rfl rfl mw_790 ?_
              have f8 : frB M1 (ab_sI M1 57 15 (nI (bN (anF (oB S T D d) jp (qn T))))) := ⟨fun a i h1 h2 => sI_ne (by omega), fun _ _ _ _ => rfl, rfl⟩
              refine B_bel_tail wd (frB_dr f8 dr1) wq (frB_qr f8 qr1) ws (frB_sr f8 sr1) h0 hd hl hj ⟨by rw [sI_ne (by omega)]; exact hs.1, fun i hi => by have := hs.2 i hi; rw [sI_ne (by omega)]; exact this⟩ (fun M' f9 o9 z9 s9 => ih _ (by omega) jp M' rfl (by omega) (frB_trans hf (frB_trans f8 f9)) (by rw [z9, sI_ne (by omega)]; exact hz) (by rw [o9, sI_hit]) s9)
          · skip
            refine aw_aload_n d_MO_believed_79 rfl 4 rfl ?_
            refine aw_iload d_MO_believed_80 0 rfl ?_
            refine aw_iload_n d_MO_believed_82 rfl 5 rfl ?_
            refine aw_callV (K' := k_MO_hitsOf) (As := [.int (nI (jp + 1)), .int (nI (d))]) (rest := [.int (nI (bN (anF (oB S T D d) (jp + 1) (qn T)))), .ref (57)]) (b := 57) d_MO_believed_83 rfl rfl rfl cs_MO_110 rfl (Nat.le_of_ble_eq_true rfl) (Nat.le_of_ble_eq_true rfl) (by decide) (by decide) (d' := 2) (w' := 48) (by decide) (by decide) ?_
            show AW _ _ _ _ _ _ _ [(0, .ref (57)), (1, .int (nI (jp + 1))), (2, .int (nI (d)))] _ _ _ _ _
            refine B_hitsOf wd dr1 wq qr1 h0 hj1 (by omega) hd ?_
            refine ab_go1 ?_
            refine aw_if_neN (tgt := 93) d_MO_believed_86 (by decide) (by omega) (fun c7 => ?_) (fun c7 => ?_)
            · skip
              refine aw_iconst (v := nI 0) d_MO_believed_93 (by decide) ?_
              refine aw_goto (tgt := 120) d_MO_believed_94 (by decide) ?_
              refine aw_ior d_MO_believed_120 ?_
              refine aw_eqi (nI (bN (anF (oB S T D d) jp (qn T)))) (by rw [or_b0, anF_pre _ hj, oB_no (by rw [met_lo (by omega), decide_eq_true (by omega)]), Bool.false_or]) ?_
              refine aw_putZ (ic := 57) (ci := 6) (k := 15) (nI_b _) d_MO_believed_121 rfl rfl (by decide) rfl rfl rfl mw_790 ?_
              have f8 : frB M1 (ab_sI M1 57 15 (nI (bN (anF (oB S T D d) jp (qn T))))) := ⟨fun a i h1 h2 => sI_ne (by omega), fun _ _ _ _ => rfl, rfl⟩
              refine B_bel_tail wd (frB_dr f8 dr1) wq (frB_qr f8 qr1) ws (frB_sr f8 sr1) h0 hd hl hj ⟨by rw [sI_ne (by omega)]; exact hs.1, fun i hi => by have := hs.2 i hi; rw [sI_ne (by omega)]; exact this⟩ (fun M' f9 o9 z9 s9 => ih _ (by omega) jp M' rfl (by omega) (frB_trans hf (frB_trans f8 f9)) (by rw [z9, sI_ne (by omega)]; exact hz) (by rw [o9, sI_hit]) s9)
            · skip
              refine aw_iconst (v := nI 1) d_MO_believed_89 (by decide) ?_
              refine aw_goto (tgt := 120) d_MO_believed_90 (by decide) ?_
              refine aw_ior d_MO_believed_120 ?_
              refine aw_eqi (nI (bN (anF (oB S T D d) jp (qn T)))) (by rw [or_b1, anF_pre _ hj, oB_yes (by omega) (by rw [met_lo (by omega), decide_eq_false (by omega)])]; rfl) ?_
              refine aw_putZ (ic := 57) (ci := 6) (k := 15) (nI_b _) d_MO_believed_121 rfl rfl (by decide) rfl rfl rfl mw_790 ?_
              have f8 : frB M1 (ab_sI M1 57 15 (nI (bN (anF (oB S T D d) jp (qn T))))) := ⟨fun a i h1 h2 => sI_ne (by omega), fun _ _ _ _ => rfl, rfl⟩
              refine B_bel_tail wd (frB_dr f8 dr1) wq (frB_qr f8 qr1) ws (frB_sr f8 sr1) h0 hd hl hj ⟨by rw [sI_ne (by omega)]; exact hs.1, fun i hi => by have := hs.2 i hi; rw [sI_ne (by omega)]; exact this⟩ (fun M' f9 o9 z9 s9 => ih _ (by omega) jp M' rfl (by omega) (frB_trans hf (frB_trans f8 f9)) (by rw [z9, sI_ne (by omega)]; exact hz) (by rw [o9, sI_hit]) s9)
set_option maxRecDepth 4000 in
theorem B_believed {l : Launch} {M : ab_M} {Q : ab_O → ab_M → Prop} {D : Dg} {T : Qg} {S : Sg} (wd : wD D) (dr : iDR D M) (wq : wQ T) (qr : iQR T M) (ws : wS S) (sr : iSR S M) (h0 : op T (qn T) = 0) {d : Nat} (hd : d < dn D) (hl : 0 < dl D d) (hQ : ∀ M', frB M M' → M'.1 57 0 = M.1 57 0 → M'.1 57 15 = nI (bN (outB T D (bl S T D d (qn T)) d)) → Q (.inl (some (.double (bl S T D d (qn T) 0)))) M') : AW sys l ab_Zt k_MO_believed 4 102 0 [(0, .ref (57)), (1, .int (nI (d)))] [] M 0 0 Q := by
  have h24 := wq.1
  refine aw_aload_n d_MO_believed_0 rfl 0 rfl ?_
  refine aw_iconst (v := nI 0) d_MO_believed_1 (by decide) ?_
  refine aw_putI (ic := 57) (ci := 6) (k := 14) d_MO_believed_2 rfl rfl (by decide) rfl rfl rfl mw_789 ?_
  refine aw_aload_n d_MO_believed_5 rfl 0 rfl ?_
  refine aw_iconst (v := nI 0) d_MO_believed_6 (by decide) ?_
  refine aw_putZ (ic := 57) (ci := 6) (k := 15) (Or.inl rfl) d_MO_believed_7 rfl rfl (by decide) rfl rfl rfl mw_790 ?_
  refine aw_aload_n d_MO_believed_10 rfl 0 rfl ?_
  refine aw_get (ic := 57) (ci := 6) (k := 8) d_MO_believed_11 rfl rfl (by decide) rfl mw_783 rfl ?_
  refine aw_eqi (nI (qn T)) (by rw [sI_ne (by omega), sI_ne (by omega)]; exact qr.1) ?_
  refine aw_iconst (v := nI 1) d_MO_believed_14 (by decide) ?_
  refine aw_isub d_MO_believed_15 ?_
  refine aw_istore_n (lv' := [(2, .int (nI (qn T) - nI 1)), (0, .ref (57)), (1, .int (nI (d)))]) d_MO_believed_16 rfl (by decide) rfl ?_
  exact B_bel_loop wd dr wq qr ws sr h0 hd hl hQ _ (qn T) _ rfl (Nat.le_refl _) ⟨fun a i h1 h2 => by rw [sI_ne (by omega), sI_ne (by omega)], fun _ _ _ _ => rfl, rfl⟩ (by rw [sI_ne (by omega), sI_ne (by omega)]) (by rw [sI_hit, anF_start (Nat.le_refl _)]; rfl) ⟨by rw [sI_ne (by omega), sI_hit, h0], fun i hi => by omega⟩
