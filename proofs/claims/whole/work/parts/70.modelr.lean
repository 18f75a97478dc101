/-! MODELS of the reference (rows laid by gen/m18.py) -/
def oI (b : Option Nat) : Int32 := match b with
  | none => -1
  | some g => nI g
theorem bs_lt {D : Dg} {R : Rg} {x : Kg} : ∀ {w b : Nat}, bs D R x w = some b → b < w
  | 0, b, h => by cases h
  | w + 1, b, h => by
    simp only [bs] at h
    split at h
    · cases h; omega
    · have := bs_lt h; omega
section BS
variable {D : Dg} {R : Rg} {x : Kg} {w b : Nat}
theorem bs_taken (h : tkB x w = true) : bs D R x (w + 1) = bs D R x w := if_neg (fun q => by rw [q.1] at h; cases h)
theorem bs_zero (h : ¬ 0 < fz (wv D R w)) : bs D R x (w + 1) = bs D R x w := if_neg (fun q => h q.2.1)
theorem bs_none (hb : bs D R x w = none) (ht : tkB x w = false) (hp : 0 < fz (wv D R w)) : bs D R x (w + 1) = some w := if_pos ⟨ht, hp, fun b h => by rw [hb] at h; cases h⟩
theorem bs_gt (hb : bs D R x w = some b) (ht : tkB x w = false) (hp : 0 < fz (wv D R w)) (h : fz (wv D R b) < fz (wv D R w)) : bs D R x (w + 1) = some w := if_pos ⟨ht, hp, fun c hc => by rw [hb] at hc; cases hc; exact h⟩
theorem bs_le (hb : bs D R x w = some b) (h : ¬ fz (wv D R b) < fz (wv D R w)) : bs D R x (w + 1) = bs D R x w := if_neg (fun q => h (q.2.2 b hb))
end BS
theorem tk_bit {x : Kg} {w : Nat} (h : w < 16) : (bsn (tkB x) 16).testBit w = tkB x w := by rw [bsn_bit, decide_eq_true h, Bool.true_and]
theorem tk_t {x : Kg} {w : Nat} (hw : w < 16) (h : 0 < bsn (tkB x) 16 / 2 ^ w &&& 1) : tkB x w = true := by
  rw [← tk_bit hw]
  exact (bit_and _ _).mp (by have := bit_lt (bsn (tkB x) 16) w; omega)
theorem tk_f {x : Kg} {w : Nat} (hw : w < 16) (h : bsn (tkB x) 16 / 2 ^ w &&& 1 = 0) : tkB x w = false := by
  rw [← tk_bit hw]
  exact bit_ne (by omega)
theorem tk_or {x : Kg} {g : Nat} (hg : g < 16) {S : Nat → UInt64} {v : UInt64} : bsn (tkB x) 16 ||| 2 ^ g = bsn (tkB (S, kn x + 1, upN (kc x) (kn x) g, upN (kd x) (kn x) v)) 16 :=
  bsn_eq (fun i => by
    rw [Nat.testBit_or, bsn_bit, tkB_add]
    by_cases e : g = i
    · subst e; rw [Nat.testBit_two_pow_self]; simp [hg]
    · rw [Nat.testBit_two_pow_of_ne e]
      have : (g == i) = false := by simp [e]
      rw [this, Bool.or_false, Bool.or_false])
/-- the reference's tokens while it makes a model -/
def rQ (x : Kg) (j : Nat) : Qg := (j + 1, fun t => if t = 0 then 9 else 0, fun t => if t = 0 then 0 else kc x (t - 1), fun t => if t = 0 then FP.dconst1 else kd x (t - 1))
theorem iQR_eq {T T' : Qg} {M : ab_M} (h : iQR T M) (hn : qn T' = qn T) (he : ∀ t, t < qn T → qk T' t = qk T t ∧ qa T' t = qa T t ∧ qw T' t = qw T t) : iQR T' M :=
  ⟨by rw [hn]; exact h.1, fun t ht => by rw [hn] at ht; rw [(he t ht).1]; exact h.2.1 t ht, fun t ht => by rw [hn] at ht; rw [(he t ht).2.1]; exact h.2.2.1 t ht, fun t ht => by rw [hn] at ht; rw [(he t ht).2.2]; exact h.2.2.2 t ht⟩
theorem rQ_add {x : Kg} {j g : Nat} {S : Nat → UInt64} {v : UInt64} {M : ab_M} (hj : kn x = j) (h : iQR (addQ (rQ x j) 0 g v) M) : iQR (rQ (S, kn x + 1, upN (kc x) (kn x) g, upN (kd x) (kn x) v) (j + 1)) M := by
  refine iQR_eq h rfl (fun t ht => ?_)
  have ht' : t < j + 1 + 1 := ht
  have en : qn (rQ x j) = j + 1 := rfl
  by_cases e : t = j + 1
  · subst e
    rw [← en, addQ_k', addQ_a', addQ_w']
    refine ⟨rfl, ?_, ?_⟩
    · show upN (kc x) (kn x) g (j + 1 - 1) = g
      rw [hj, Nat.add_sub_cancel, up_hit]
    · show upN (kd x) (kn x) v (j + 1 - 1) = v
      rw [hj, Nat.add_sub_cancel, up_hit]
  · rw [addQ_k (by omega), addQ_a (by omega), addQ_w (by omega)]
    refine ⟨rfl, ?_, ?_⟩
    · show (if t = 0 then 0 else upN (kc x) (kn x) g (t - 1)) = if t = 0 then 0 else kc x (t - 1)
      by_cases e0 : t = 0
      · rw [if_pos e0, if_pos e0]
      · rw [if_neg e0, if_neg e0, up_ne (by omega)]
    · show (if t = 0 then FP.dconst1 else upN (kd x) (kn x) v (t - 1)) = if t = 0 then FP.dconst1 else kd x (t - 1)
      by_cases e0 : t = 0
      · rw [if_pos e0, if_pos e0]
      · rw [if_neg e0, if_neg e0, up_ne (by omega)]
/-- what a made model leaves alone -/
def keM (D : Dg) (S : Sg) (R : Rg) (M M' : ab_M) : Prop := iDR D M' ∧ iSR S M' ∧ iRR R M' ∧ frC' M M' ∧ M'.1 57 0 = nI 0
theorem keM_fr {D : Dg} {S : Sg} {R : Rg} {M M1 M2 : ab_M} (h : keM D S R M M1) (f : ∀ a i, (a < 61 ∨ 63 < a) → (a ≠ 57 ∨ i ≠ 8) → M2.1 a i = M1.1 a i ∧ M2.2.1 a i = M1.2.1 a i ∧ M2.2.2 a i = M1.2.2 a i) (f9 : M2.2.2 = M1.2.2) : keM D S R M M2 := by
  obtain ⟨h1, h2, h3, h4, h5⟩ := h
  refine ⟨iDR_of h1 (f _ _ (by omega) (by omega)).1 (fun a i x y => (f a i (by omega) (by omega)).1), iSR_of h2 (fun i x y => ⟨(f _ i (by omega) (by omega)).1, (f _ i (by omega) (by omega)).2.1⟩), iRR_of h3 (fun i x => (f _ i (by omega) (by omega)).1) (fun a i x y => ⟨(f a i (by omega) (by omega)).1, (f a i (by omega) (by omega)).2.1⟩), frC_trans h4 (fun a i ha => f a i (by omega) (by omega)), ?_⟩
  rw [(f _ _ (by omega) (by omega)).1]; exact h5
theorem ad_fr (T : Qg) (k a : Nat) (w : UInt64) (M : ab_M) : ∀ b i, (b < 61 ∨ 63 < b) → (b ≠ 57 ∨ i ≠ 8) → (adR T k a w M).1 b i = M.1 b i ∧ (adR T k a w M).2.1 b i = M.2.1 b i ∧ (adR T k a w M).2.2 b i = M.2.2 b i := by
  intro b i h1 h2
  simp only [adR]
  refine ⟨?_, ?_, rfl⟩
  · rw [sI_ne (by omega), sD_1, sI_ne (by omega), sI_ne (by omega)]
  · rw [sI_2, sD_ne (by omega)]; rfl
def md0 (T : Qg) (M : ab_M) : ab_M := adR (noQ T) 9 0 FP.dconst1 (clrR M)
theorem md0_k {D : Dg} {R : Rg} : kn (tkN D R 0) = 0 := rfl
theorem md0_t {D : Dg} {R : Rg} : bsn (tkB (tkN D R 0)) 16 = 0 := bsn_none (fun i _ => rfl)
theorem clr_iq {T : Qg} {M : ab_M} : iQR (noQ T) (clrR M) := ⟨sI_hit _ _ _ _, fun t ht => absurd ht (by show ¬ t < 0; omega), fun t ht => absurd ht (by show ¬ t < 0; omega), fun t ht => absurd ht (by show ¬ t < 0; omega)⟩
theorem md0_q {D : Dg} {R : Rg} {T : Qg} {M : ab_M} : iQR (rQ (tkN D R 0) 0) (md0 T M) := by
  refine iQR_eq (adR_i clr_iq) rfl (fun t ht => ?_)
  have ht' : t < 0 + 1 := ht
  rw [show t = 0 by omega]
  exact ⟨(addQ_k' (T := noQ T)).symm, (addQ_a' (T := noQ T)).symm, (addQ_w' (T := noQ T)).symm⟩
theorem md0_ke {D : Dg} {R : Rg} {S : Sg} {T : Qg} {M : ab_M} (dr : iDR D M) (sr : iSR S M) (rr : iRR R M) : keM D S R M (md0 T M) := by
  have h0 : keM D S R M (thrM 0 M) := ⟨frB_dr (thr_fr 0 M) dr, frB_sr (thr_fr 0 M) sr, frB_rr (thr_fr 0 M) rr, frB_c (thr_fr 0 M), sI_hit _ _ _ _⟩
  refine keM_fr h0 (fun a i h1 h2 => ?_) rfl
  have e := ad_fr (noQ T) 9 0 FP.dconst1 (clrR M) a i h1 h2
  exact ⟨e.1.trans (sI_ne (by omega)), e.2.1, e.2.2⟩

set_option maxRecDepth 4000 in
theorem B_worth_loop {l : Launch} {M : ab_M} {Q : ab_O → ab_M → Prop} {D : Dg} {R : Rg} (wd : wD D) (dr : iDR D M) (wr : wR D R) (rr : iRR R M) {w : Nat} (hw : w < 16) (hQ : Q (.inl (some (.double (wv D R w)))) M) : ∀ (mm : Nat) (k : Nat), 12 - k = mm → (hkn : k ≤ rn R) → AW sys l ab_Zt k_MO_worth 1 24 5 [(4, .int (nI (k))), (2, .double (woD D R w k)), (0, .ref (57)), (1, .int (nI (w)))] [] M 0 0 Q := by
  intro mm
  induction mm using Nat.strongRecOn with
  | ind mm ih =>
    intro k hk hkn
    have h12 := wd.1
    have hr12 := wr.1
    have hdk : k < rn R → rd R k < dn D := fun h => (wr.2.2 k h).1
    refine aw_iload d_MO_worth_5 0 rfl ?_
    refine aw_aload_n d_MO_worth_7 rfl 2 rfl ?_
    refine aw_get (ic := 57) (ci := 6) (k := 18) d_MO_worth_8 rfl rfl (by decide) rfl mw_793 rfl ?_
    refine aw_eqi (nI (rn R)) rr.1 ?_
    refine aw_icmp_geN (tgt := 61) d_MO_worth_11 (by decide) (by omega) (by omega) (fun c1 => ?_) (fun c1 => ?_)
    · skip
      refine aw_dload_n d_MO_worth_61 rfl 1 rfl ?_
      refine aw_dret d_MO_worth_62 rfl (by decide) (by decide) ?_
      exact q_d (by rw [show k = rn R by omega]; rfl) hQ
    · skip
      refine aw_dload_n d_MO_worth_14 rfl 1 rfl ?_
      refine aw_aload_n d_MO_worth_15 rfl 2 rfl ?_
      refine aw_get (ic := 57) (ci := 6) (k := 17) (v := .ref 68) d_MO_worth_16 rfl rfl (by decide) rfl mw_792 rfl ?_
      refine aw_iload d_MO_worth_19 0 rfl ?_
      refine aw_daldN d_MO_worth_21 rfl (by decide) (by omega) ?_
      refine aw_eqd (rb R k) (rr.2.2.2 _ (by omega)) ?_
      refine aw_aload_n d_MO_worth_22 rfl 2 rfl ?_
      refine aw_aload_n d_MO_worth_23 rfl 2 rfl ?_
      refine aw_get (ic := 57) (ci := 6) (k := 16) (v := .ref 67) d_MO_worth_24 rfl rfl (by decide) rfl mw_791 rfl ?_
      refine aw_iload d_MO_worth_27 0 rfl ?_
      refine aw_ialdN d_MO_worth_29 rfl (by decide) (by omega) ?_
      refine aw_eqi (nI (rd R k)) (rr.2.2.1 _ (by omega)) ?_
      refine aw_iload_n d_MO_worth_30 rfl 3 rfl ?_
      refine aw_callV (K' := k_MO_places) (As := [.int (nI (rd R k)), .int (nI (w))]) (rest := [.double (rb R k), .double (woD D R w k)]) (b := 57) d_MO_worth_31 rfl rfl rfl cs_MO_96 rfl (Nat.le_of_ble_eq_true rfl) (Nat.le_of_ble_eq_true rfl) (by decide) (by decide) (d' := 0) (w' := 0) (by decide) (by decide) ?_
      show AW _ _ _ _ _ _ _ [(0, .ref (57)), (1, .int (nI (rd R k))), (2, .int (nI (w)))] _ _ _ _ _
      refine B_places wd dr (by omega) hw ?_
      refine ab_go1 ?_
      refine aw_callS (K' := k_MO_bits) (As := [.int (nI (bsn (fw D (rd R k) w) (dl D (rd R k))))]) (rest := [.double (rb R k), .double (woD D R w k)]) d_MO_worth_34 rfl cs_MO_113 rfl (Nat.le_of_ble_eq_true rfl) (Nat.le_of_ble_eq_true rfl) (by decide) (by decide) (d' := 0) (w' := 0) (by decide) (by decide) ?_
      show AW _ _ _ _ _ _ _ [(0, .int (nI (bsn (fw D (rd R k) w) (dl D (rd R k)))))] _ _ _ _ _
      refine B_bits (wd.2.1 _) ?_
      refine ab_go1 ?_
      refine aw_i2d d_MO_worth_37 ?_
      refine aw_aload_n d_MO_worth_38 rfl 2 rfl ?_
      refine aw_get (ic := 57) (ci := 6) (k := 2) (v := .ref 59) d_MO_worth_39 rfl rfl (by decide) rfl mw_777 rfl ?_
      refine aw_aload_n d_MO_worth_42 rfl 2 rfl ?_
      refine aw_get (ic := 57) (ci := 6) (k := 16) (v := .ref 67) d_MO_worth_43 rfl rfl (by decide) rfl mw_791 rfl ?_
      refine aw_iload d_MO_worth_46 0 rfl ?_
      refine aw_ialdN d_MO_worth_48 rfl (by decide) (by omega) ?_
      refine aw_eqi (nI (rd R k)) (rr.2.2.1 _ (by omega)) ?_
      refine aw_ialdN d_MO_worth_49 rfl (by decide) (by omega) ?_
      refine aw_eqi (nI (dl D (rd R k))) (dr.2.1 _ (by omega)) ?_
      refine aw_i2d d_MO_worth_50 ?_
      refine aw_ddiv d_MO_worth_51 (f_n64 (f_div_n (fF_i _) (fF_i _) (rtW_ok wd wr w (by omega)).2)) ?_
      refine aw_eqd (rtW D R w k) rfl ?_
      refine aw_dmul d_MO_worth_52 (f_n64 (f_mul_n (wr.2.2 k (by omega)).2.2.1 (rtW_ok wd wr w (by omega)).1.1)) ?_
      refine aw_eqd (tmD D R w k) rfl ?_
      refine aw_dadd d_MO_worth_53 (f_n64 (f_add_n (woD_ok wd wr w k (by omega)).1 (tmD_ok wd wr w (by omega)).1)) ?_
      refine aw_eqd (woD D R w (k + 1)) rfl ?_
      refine aw_dstore_n (lv' := [(2, .double (woD D R w (k + 1))), (4, .int (nI (k))), (0, .ref (57)), (1, .int (nI (w)))]) d_MO_worth_54 rfl (by decide) rfl ?_
      refine aw_iinc (v := (nI (k + 1))) (lv' := [(4, .int (nI (k + 1))), (2, .double (woD D R w (k + 1))), (0, .ref (57)), (1, .int (nI (w)))]) d_MO_worth_55 (j := 1) rfl (nI_add (k) 1) (by decide) rfl ?_
      refine aw_goto (tgt := 5) d_MO_worth_58 (by decide) ?_
      exact ih _ (by omega) (k + 1) rfl (by omega)
set_option maxRecDepth 4000 in
theorem B_worth {l : Launch} {M : ab_M} {Q : ab_O → ab_M → Prop} {D : Dg} {R : Rg} (wd : wD D) (dr : iDR D M) (wr : wR D R) (rr : iRR R M) {w : Nat} (hw : w < 16) (hQ : Q (.inl (some (.double (wv D R w)))) M) : AW sys l ab_Zt k_MO_worth 1 24 0 [(0, .ref (57)), (1, .int (nI (w)))] [] M 0 0 Q := by
  refine aw_dconst0 d_MO_worth_0 ?_
  refine aw_dstore_n (lv' := [(2, .double (FP.dconst0)), (0, .ref (57)), (1, .int (nI (w)))]) d_MO_worth_1 rfl (by decide) rfl ?_
  refine aw_iconst (v := nI 0) d_MO_worth_2 (by decide) ?_
  refine aw_istore (lv' := [(4, .int (nI (0))), (2, .double (FP.dconst0)), (0, .ref (57)), (1, .int (nI (w)))]) d_MO_worth_3 (by decide) rfl ?_
  exact B_worth_loop wd dr wr rr hw hQ _ 0 rfl (by omega)
set_option maxRecDepth 4000 in
theorem B_md_in {l : Launch} {M : ab_M} {Q : ab_O → ab_M → Prop} {D : Dg} {R : Rg} (wd : wD D) (dr : iDR D M) (wr : wR D R) (rr : iRR R M) {x : Kg} {j n : Nat} (hK : AW sys l ab_Zt k_MO_model 2 48 127 [(6, .int (nI 16)), (5, .int (oI (bs D R x 16))), (4, .int (nI 1)), (3, .int (nI j)), (2, .int (nI (bsn (tkB x) 16))), (0, .ref 57), (1, .int (nI n))] [] M 0 0 Q) : ∀ (mm : Nat) (w : Nat), 16 - w = mm → w ≤ 16 → AW sys l ab_Zt k_MO_model 2 48 69 [(6, .int (nI (w))), (5, .int (oI (bs D R x w))), (4, .int (nI (1))), (3, .int (nI (j))), (2, .int (nI (bsn (tkB x) 16))), (0, .ref (57)), (1, .int (nI (n)))] [] M 0 0 Q := by
  intro mm
  induction mm using Nat.strongRecOn with
  | ind mm ih =>
    intro w hk hw
    rcases hb : bs D R x w with _ | b
    · rw [show oI (none : Option Nat) = (-1 : Int32) from rfl]
      refine aw_iload d_MO_model_69 0 rfl ?_
      refine aw_bipush (v := nI 16) d_MO_model_71 (by decide) ?_
      refine aw_icmp_geN (tgt := 127) d_MO_model_73 (by decide) (by omega) (by omega) (fun c1 => ?_) (fun c1 => ?_)
      · skip
        have ew : w = 16 := by omega
        subst ew
        rw [show oI (bs D R x 16) = (-1 : Int32) by rw [hb]; rfl] at hK
        exact hK
      · skip
        refine aw_iload_n d_MO_model_76 rfl 4 rfl ?_
        refine aw_iload d_MO_model_77 0 rfl ?_
        refine aw_ishrN d_MO_model_79 (by omega) (by have := bsn_lt (tkB x) 16; omega) ?_
        refine aw_iconst (v := nI 1) d_MO_model_80 (by decide) ?_
        refine aw_iandN d_MO_model_81 ?_
        refine aw_if_neN (tgt := 121) d_MO_model_82 (by decide) (by have := bit_lt (bsn (tkB x) 16) w; omega) (fun c2 => ?_) (fun c2 => ?_)
        · skip
          refine aw_iinc (v := (nI (w + 1))) (lv' := [(6, .int (nI (w + 1))), (5, .int ((-1 : Int32))), (4, .int (nI (1))), (3, .int (nI (j))), (2, .int (nI (bsn (tkB x) 16))), (0, .ref (57)), (1, .int (nI (n)))]) d_MO_model_121 (j := 0) rfl (nI_add (w) 1) (by decide) rfl ?_
          refine aw_goto (tgt := 69) d_MO_model_124 (by decide) ?_
          have h8 := ih _ (show 16 - (w + 1) < mm by omega) (w + 1) rfl (by omega)
          rw [show oI (bs D R x (w + 1)) = (-1 : Int32) by rw [bs_taken (tk_t (by omega) c2), hb]; rfl] at h8
          exact h8
        · skip
          refine aw_aload_n d_MO_model_85 rfl 5 rfl ?_
          refine aw_iload d_MO_model_86 0 rfl ?_
          refine aw_callV (K' := k_MO_worth) (As := [.int (nI (w))]) (rest := []) (b := 57) d_MO_model_88 rfl rfl rfl cs_MO_156 rfl (Nat.le_of_ble_eq_true rfl) (Nat.le_of_ble_eq_true rfl) (by decide) (by decide) (d' := 1) (w' := 24) (by decide) (by decide) ?_
          show AW _ _ _ _ _ _ _ [(0, .ref (57)), (1, .int (nI (w)))] _ _ _ _ _
          refine B_worth wd dr wr rr (by omega) ?_
          refine ab_go1 ?_
          refine aw_dconst0 d_MO_model_91 ?_
          refine aw_dcmp d_MO_model_92 ?_
          refine ad_le (wv_ok wd wr w).1.n fF_zero.n d_MO_model_93 (tgt := 121) (by decide) (fun c3 => ?_) (fun c3 => ?_)
          · skip
            refine aw_iinc (v := (nI (w + 1))) (lv' := [(6, .int (nI (w + 1))), (5, .int ((-1 : Int32))), (4, .int (nI (1))), (3, .int (nI (j))), (2, .int (nI (bsn (tkB x) 16))), (0, .ref (57)), (1, .int (nI (n)))]) d_MO_model_121 (j := 0) rfl (nI_add (w) 1) (by decide) rfl ?_
            refine aw_goto (tgt := 69) d_MO_model_124 (by decide) ?_
            have h8 := ih _ (show 16 - (w + 1) < mm by omega) (w + 1) rfl (by omega)
            rw [show oI (bs D R x (w + 1)) = (-1 : Int32) by rw [bs_zero (by have h9 := c3; rw [fz_zero] at h9; omega), hb]; rfl] at h8
            exact h8
          · skip
            refine aw_iload d_MO_model_96 1 rfl ?_
            refine aw_if_lt (tgt := 117) d_MO_model_98 (by decide) (fun c4 => ?_) (fun c4 => ?_)
            · skip
              refine aw_iload d_MO_model_117 0 rfl ?_
              refine aw_istore (lv' := [(5, .int (nI (w))), (6, .int (nI (w))), (4, .int (nI (1))), (3, .int (nI (j))), (2, .int (nI (bsn (tkB x) 16))), (0, .ref (57)), (1, .int (nI (n)))]) d_MO_model_119 (by decide) rfl ?_
              refine aw_iinc (v := (nI (w + 1))) (lv' := [(6, .int (nI (w + 1))), (5, .int (nI (w))), (4, .int (nI (1))), (3, .int (nI (j))), (2, .int (nI (bsn (tkB x) 16))), (0, .ref (57)), (1, .int (nI (n)))]) d_MO_model_121 (j := 1) rfl (nI_add (w) 1) (by decide) rfl ?_
              refine aw_goto (tgt := 69) d_MO_model_124 (by decide) ?_
              have h8 := ih _ (show 16 - (w + 1) < mm by omega) (w + 1) rfl (by omega)
              rw [show oI (bs D R x (w + 1)) = nI w by rw [bs_none hb (tk_f (by omega) c2) (by have h9 := c3; rw [fz_zero] at h9; exact h9)]; rfl] at h8
              exact h8
            · skip
              exact absurd c4 (by decide)
    · rw [show oI (some b) = nI b from rfl]
      have hbw := bs_lt hb
      refine aw_iload d_MO_model_69 0 rfl ?_
      refine aw_bipush (v := nI 16) d_MO_model_71 (by decide) ?_
      refine aw_icmp_geN (tgt := 127) d_MO_model_73 (by decide) (by omega) (by omega) (fun c1 => ?_) (fun c1 => ?_)
      · skip
        have ew : w = 16 := by omega
        subst ew
        rw [show oI (bs D R x 16) = nI b by rw [hb]; rfl] at hK
        exact hK
      · skip
        refine aw_iload_n d_MO_model_76 rfl 4 rfl ?_
        refine aw_iload d_MO_model_77 0 rfl ?_
        refine aw_ishrN d_MO_model_79 (by omega) (by have := bsn_lt (tkB x) 16; omega) ?_
        refine aw_iconst (v := nI 1) d_MO_model_80 (by decide) ?_
        refine aw_iandN d_MO_model_81 ?_
        refine aw_if_neN (tgt := 121) d_MO_model_82 (by decide) (by have := bit_lt (bsn (tkB x) 16) w; omega) (fun c2 => ?_) (fun c2 => ?_)
        · skip
          refine aw_iinc (v := (nI (w + 1))) (lv' := [(6, .int (nI (w + 1))), (5, .int (nI (b))), (4, .int (nI (1))), (3, .int (nI (j))), (2, .int (nI (bsn (tkB x) 16))), (0, .ref (57)), (1, .int (nI (n)))]) d_MO_model_121 (j := 0) rfl (nI_add (w) 1) (by decide) rfl ?_
          refine aw_goto (tgt := 69) d_MO_model_124 (by decide) ?_
          have h8 := ih _ (show 16 - (w + 1) < mm by omega) (w + 1) rfl (by omega)
          rw [show oI (bs D R x (w + 1)) = nI b by rw [bs_taken (tk_t (by omega) c2), hb]; rfl] at h8
          exact h8
        · skip
          refine aw_aload_n d_MO_model_85 rfl 5 rfl ?_
          refine aw_iload d_MO_model_86 0 rfl ?_
          refine aw_callV (K' := k_MO_worth) (As := [.int (nI (w))]) (rest := []) (b := 57) d_MO_model_88 rfl rfl rfl cs_MO_156 rfl (Nat.le_of_ble_eq_true rfl) (Nat.le_of_ble_eq_true rfl) (by decide) (by decide) (d' := 1) (w' := 24) (by decide) (by decide) ?_
          show AW _ _ _ _ _ _ _ [(0, .ref (57)), (1, .int (nI (w)))] _ _ _ _ _
          refine B_worth wd dr wr rr (by omega) ?_
          refine ab_go1 ?_
          refine aw_dconst0 d_MO_model_91 ?_
          refine aw_dcmp d_MO_model_92 ?_
          refine ad_le (wv_ok wd wr w).1.n fF_zero.n d_MO_model_93 (tgt := 121) (by decide) (fun c3 => ?_) (fun c3 => ?_)
          · skip
            refine aw_iinc (v := (nI (w + 1))) (lv' := [(6, .int (nI (w + 1))), (5, .int (nI (b))), (4, .int (nI (1))), (3, .int (nI (j))), (2, .int (nI (bsn (tkB x) 16))), (0, .ref (57)), (1, .int (nI (n)))]) d_MO_model_121 (j := 0) rfl (nI_add (w) 1) (by decide) rfl ?_
            refine aw_goto (tgt := 69) d_MO_model_124 (by decide) ?_
            have h8 := ih _ (show 16 - (w + 1) < mm by omega) (w + 1) rfl (by omega)
            rw [show oI (bs D R x (w + 1)) = nI b by rw [bs_zero (by have h9 := c3; rw [fz_zero] at h9; omega), hb]; rfl] at h8
            exact h8
          · skip
            refine aw_iload d_MO_model_96 1 rfl ?_
            refine aw_if_lt (tgt := 117) d_MO_model_98 (by decide) (fun c4 => ?_) (fun c4 => ?_)
            · skip
              exact absurd c4 (nI_pos (by omega))
            · skip
              refine aw_aload_n d_MO_model_101 rfl 5 rfl ?_
              refine aw_iload d_MO_model_102 0 rfl ?_
              refine aw_callV (K' := k_MO_worth) (As := [.int (nI (w))]) (rest := []) (b := 57) d_MO_model_104 rfl rfl rfl cs_MO_156 rfl (Nat.le_of_ble_eq_true rfl) (Nat.le_of_ble_eq_true rfl) (by decide) (by decide) (d' := 1) (w' := 24) (by decide) (by decide) ?_
              show AW _ _ _ _ _ _ _ [(0, .ref (57)), (1, .int (nI (w)))] _ _ _ _ _
              refine B_worth wd dr wr rr (by omega) ?_
              refine ab_go1 ?_
              refine aw_aload_n d_MO_model_107 rfl 5 rfl ?_
              refine aw_iload d_MO_model_108 1 rfl ?_
              refine aw_callV (K' := k_MO_worth) (As := [.int (nI (b))]) (rest := [.double (wv D R w)]) (b := 57) d_MO_model_110 rfl rfl rfl cs_MO_156 rfl (Nat.le_of_ble_eq_true rfl) (Nat.le_of_ble_eq_true rfl) (by decide) (by decide) (d' := 1) (w' := 24) (by decide) (by decide) ?_
              show AW _ _ _ _ _ _ _ [(0, .ref (57)), (1, .int (nI (b)))] _ _ _ _ _
              refine B_worth wd dr wr rr (by omega) ?_
              refine ab_go1 ?_
              refine aw_dcmp d_MO_model_113 ?_
              refine ad_le (wv_ok wd wr w).1.n (wv_ok wd wr b).1.n d_MO_model_114 (tgt := 121) (by decide) (fun c5 => ?_) (fun c5 => ?_)
              · skip
                refine aw_iinc (v := (nI (w + 1))) (lv' := [(6, .int (nI (w + 1))), (5, .int (nI (b))), (4, .int (nI (1))), (3, .int (nI (j))), (2, .int (nI (bsn (tkB x) 16))), (0, .ref (57)), (1, .int (nI (n)))]) d_MO_model_121 (j := 0) rfl (nI_add (w) 1) (by decide) rfl ?_
                refine aw_goto (tgt := 69) d_MO_model_124 (by decide) ?_
                have h8 := ih _ (show 16 - (w + 1) < mm by omega) (w + 1) rfl (by omega)
                rw [show oI (bs D R x (w + 1)) = nI b by rw [bs_le hb (by omega), hb]; rfl] at h8
                exact h8
              · skip
                refine aw_iload d_MO_model_117 0 rfl ?_
                refine aw_istore (lv' := [(5, .int (nI (w))), (6, .int (nI (w))), (4, .int (nI (1))), (3, .int (nI (j))), (2, .int (nI (bsn (tkB x) 16))), (0, .ref (57)), (1, .int (nI (n)))]) d_MO_model_119 (by decide) rfl ?_
                refine aw_iinc (v := (nI (w + 1))) (lv' := [(6, .int (nI (w + 1))), (5, .int (nI (w))), (4, .int (nI (1))), (3, .int (nI (j))), (2, .int (nI (bsn (tkB x) 16))), (0, .ref (57)), (1, .int (nI (n)))]) d_MO_model_121 (j := 1) rfl (nI_add (w) 1) (by decide) rfl ?_
                refine aw_goto (tgt := 69) d_MO_model_124 (by decide) ?_
                have h8 := ih _ (show 16 - (w + 1) < mm by omega) (w + 1) rfl (by omega)
                rw [show oI (bs D R x (w + 1)) = nI w by rw [bs_gt hb (tk_f (by omega) c2) (by have h9 := c3; rw [fz_zero] at h9; exact h9) c5]; rfl] at h8
                exact h8
set_option maxRecDepth 4000 in
theorem B_md_tail {l : Launch} {M : ab_M} {Q : ab_O → ab_M → Prop} {D : Dg} {R : Rg} {S : Sg} {T : Qg} (wd : wD D) (wr : wR D R) {n : Nat} (hn4 : n ≤ 4) {j : Nat} {M1 : ab_M} (hj : kn (tkN D R n) = j) (hj4 : j ≤ 4) (hm : keM D S R M M1) (hq : iQR (rQ (tkN D R n) j) M1) (hQ : ∀ M', iQR (mdT T (tkN D R n)) M' → keM D S R M M' → Q (.inl (some (.int (nI (qn (mdT T (tkN D R n))))))) M') : AW sys l ab_Zt k_MO_model 2 48 173 [(3, .int (nI (j))), (0, .ref (57))] [] M1 0 0 Q := by
  refine aw_aload_n d_MO_model_173 rfl 1 rfl ?_
  refine aw_get (ic := 57) (ci := 6) (k := 6) (v := .ref 62) d_MO_model_174 rfl rfl (by decide) rfl mw_781 rfl ?_
  refine aw_iconst (v := nI 0) d_MO_model_177 (by decide) ?_
  refine aw_iload_n d_MO_model_178 rfl 0 rfl ?_
  refine aw_iastN d_MO_model_179 rfl (by decide) (by omega) ?_
  refine aw_iload_n d_MO_model_180 rfl 0 rfl ?_
  refine aw_iconst (v := nI 1) d_MO_model_181 (by decide) ?_
  refine aw_icmp_leN (tgt := 190) d_MO_model_182 (by decide) (by omega) (by omega) (fun c1 => ?_) (fun c1 => ?_)
  · skip
    refine aw_iload_n d_MO_model_190 rfl 0 rfl ?_
    refine aw_iconst (v := nI 1) d_MO_model_191 (by decide) ?_
    refine aw_icmp_neN (tgt := 226) d_MO_model_192 (by decide) (by omega) (by omega) (fun c2 => ?_) (fun c2 => ?_)
    · skip
      refine aw_aload_n d_MO_model_226 rfl 1 rfl ?_
      refine aw_iload_n d_MO_model_227 rfl 0 rfl ?_
      refine aw_putI (ic := 57) (ci := 6) (k := 8) d_MO_model_228 rfl rfl (by decide) rfl rfl rfl mw_783 ?_
      refine aw_aload_n d_MO_model_231 rfl 1 rfl ?_
      refine aw_get (ic := 57) (ci := 6) (k := 8) d_MO_model_232 rfl rfl (by decide) rfl mw_783 rfl ?_
      refine aw_eqi (nI (j)) (sI_hit _ _ _ _) ?_
      refine aw_iret d_MO_model_235 rfl (by decide) (by decide) ?_
      have em : mdT T (tkN D R n) = noQ T := by simp only [mdT]; rw [if_pos (by omega)]
      have en : qn (mdT T (tkN D R n)) = j := by rw [em]; show 0 = j; omega
      refine q_n en.symm (hQ _ ⟨?_, fun t ht => absurd ht (by rw [en]; omega), fun t ht => absurd ht (by rw [en]; omega), fun t ht => absurd ht (by rw [en]; omega)⟩ (keM_fr hm (fun a i h1 h2 => ⟨by rw [sI_ne (by omega), sI_ne (by omega)], rfl, rfl⟩) rfl))
      rw [sI_hit, en]
    · skip
      refine aw_aload_n d_MO_model_195 rfl 1 rfl ?_
      refine aw_get (ic := 57) (ci := 6) (k := 5) (v := .ref 61) d_MO_model_196 rfl rfl (by decide) rfl mw_780 rfl ?_
      refine aw_iconst (v := nI 0) d_MO_model_199 (by decide) ?_
      refine aw_iconst (v := nI 0) d_MO_model_200 (by decide) ?_
      refine aw_iastN d_MO_model_201 rfl (by decide) (by omega) ?_
      refine aw_aload_n d_MO_model_202 rfl 1 rfl ?_
      refine aw_get (ic := 57) (ci := 6) (k := 6) (v := .ref 62) d_MO_model_203 rfl rfl (by decide) rfl mw_781 rfl ?_
      refine aw_iconst (v := nI 0) d_MO_model_206 (by decide) ?_
      refine aw_aload_n d_MO_model_207 rfl 1 rfl ?_
      refine aw_get (ic := 57) (ci := 6) (k := 6) (v := .ref 62) d_MO_model_208 rfl rfl (by decide) rfl mw_781 rfl ?_
      refine aw_iconst (v := nI 1) d_MO_model_211 (by decide) ?_
      refine aw_ialdN d_MO_model_212 rfl (by decide) (by omega) ?_
      refine aw_eqi (nI (kc (tkN D R n) 0)) (by rw [sI_ne (by omega), sI_ne (by omega)]; exact hq.2.2.1 1 (by show 1 < j + 1; omega)) ?_
      refine aw_iastN d_MO_model_213 rfl (by decide) (by omega) ?_
      refine aw_aload_n d_MO_model_214 rfl 1 rfl ?_
      refine aw_get (ic := 57) (ci := 6) (k := 7) (v := .ref 63) d_MO_model_215 rfl rfl (by decide) rfl mw_782 rfl ?_
      refine aw_iconst (v := nI 0) d_MO_model_218 (by decide) ?_
      refine aw_aload_n d_MO_model_219 rfl 1 rfl ?_
      refine aw_get (ic := 57) (ci := 6) (k := 7) (v := .ref 63) d_MO_model_220 rfl rfl (by decide) rfl mw_782 rfl ?_
      refine aw_iconst (v := nI 1) d_MO_model_223 (by decide) ?_
      refine aw_daldN d_MO_model_224 rfl (by decide) (by omega) ?_
      refine aw_eqd (kd (tkN D R n) 0) (hq.2.2.2 1 (by show 1 < j + 1; omega)) ?_
      refine aw_dastN d_MO_model_225 rfl (by decide) (by omega) ?_
      refine aw_aload_n d_MO_model_226 rfl 1 rfl ?_
      refine aw_iload_n d_MO_model_227 rfl 0 rfl ?_
      refine aw_putI (ic := 57) (ci := 6) (k := 8) d_MO_model_228 rfl rfl (by decide) rfl rfl rfl mw_783 ?_
      refine aw_aload_n d_MO_model_231 rfl 1 rfl ?_
      refine aw_get (ic := 57) (ci := 6) (k := 8) d_MO_model_232 rfl rfl (by decide) rfl mw_783 rfl ?_
      refine aw_eqi (nI (j)) (sI_hit _ _ _ _) ?_
      refine aw_iret d_MO_model_235 rfl (by decide) (by decide) ?_
      have em : mdT T (tkN D R n) = addQ (noQ T) 0 (kc (tkN D R n) 0) (kd (tkN D R n) 0) := by simp only [mdT]; rw [if_neg (by omega), if_pos (by omega)]
      have en : qn (mdT T (tkN D R n)) = j := by rw [em, addQ_n]; show 0 + 1 = j; omega
      refine q_n en.symm (hQ _ ⟨?_, fun t ht => ?_, fun t ht => ?_, fun t ht => ?_⟩ (keM_fr hm (fun a i h1 h2 => ⟨by rw [sI_ne (by omega)]; simp only [sD_1]; rw [sI_ne (by omega), sI_ne (by omega), sI_ne (by omega)], by rw [sI_2, sD_ne (by omega)]; rfl, rfl⟩) rfl))
      · rw [sI_hit, en]
      · rw [en] at ht; rw [show t = 0 by omega, em, sI_ne (by omega)]; simp only [sD_1]; rw [sI_ne (by omega), sI_hit]; exact congrArg nI (addQ_k' (T := noQ T)).symm
      · rw [en] at ht; rw [show t = 0 by omega, em, sI_ne (by omega)]; simp only [sD_1]; rw [sI_hit]; exact congrArg nI (addQ_a' (T := noQ T)).symm
      · rw [en] at ht; rw [show t = 0 by omega, em, sI_2, sD_hit]; exact (addQ_w' (T := noQ T)).symm
  · skip
    refine aw_aload_n d_MO_model_185 rfl 1 rfl ?_
    refine aw_get (ic := 57) (ci := 6) (k := 8) d_MO_model_186 rfl rfl (by decide) rfl mw_783 rfl ?_
    refine aw_eqi (nI (j + 1)) (by rw [sI_ne (by omega)]; exact hq.1) ?_
    refine aw_iret d_MO_model_189 rfl (by decide) (by decide) ?_
    have em : mdT T (tkN D R n) = mdA T (tkN D R n) (kn (tkN D R n)) := by simp only [mdT]; rw [if_neg (by omega), if_neg (by omega)]
    have en : qn (mdT T (tkN D R n)) = j + 1 := by rw [em, mdA_n, hj]
    refine q_n en.symm (hQ _ ⟨?_, fun t ht => ?_, fun t ht => ?_, fun t ht => ?_⟩ (keM_fr hm (fun a i h1 h2 => ⟨sI_ne (by omega), rfl, rfl⟩) rfl))
    · rw [sI_ne (by omega), en]; exact hq.1
    · rw [en] at ht; rw [sI_ne (by omega), em]
      rcases Nat.eq_zero_or_pos t with e | e
      · rw [e, (mdA_0 _ _ _).1]; exact hq.2.1 0 (by show 0 < j + 1; omega)
      · obtain ⟨z, rfl⟩ : ∃ z, t = z + 1 := ⟨t - 1, by omega⟩
        rw [(mdA_s _ _ _ z (by omega)).1]; exact hq.2.1 (z + 1) (by show z + 1 < j + 1; omega)
    · rw [en] at ht; rw [em]
      rcases Nat.eq_zero_or_pos t with e | e
      · rw [e, (mdA_0 _ _ _).2.1, sI_hit, hj]
      · obtain ⟨z, rfl⟩ : ∃ z, t = z + 1 := ⟨t - 1, by omega⟩
        rw [(mdA_s _ _ _ z (by omega)).2.1, sI_ne (by omega)]; exact hq.2.2.1 (z + 1) (by show z + 1 < j + 1; omega)
    · rw [en] at ht; rw [sI_2, em]
      rcases Nat.eq_zero_or_pos t with e | e
      · rw [e, (mdA_0 _ _ _).2.2]; exact hq.2.2.2 0 (by show 0 < j + 1; omega)
      · obtain ⟨z, rfl⟩ : ∃ z, t = z + 1 := ⟨t - 1, by omega⟩
        rw [(mdA_s _ _ _ z (by omega)).2.2]; exact hq.2.2.2 (z + 1) (by show z + 1 < j + 1; omega)
set_option maxRecDepth 4000 in
theorem B_md_loop {l : Launch} {M : ab_M} {Q : ab_O → ab_M → Prop} {D : Dg} {R : Rg} {S : Sg} {T : Qg} (wd : wD D) (wr : wR D R) {n : Nat} (hn4 : n ≤ 4) (hQ : ∀ M', iQR (mdT T (tkN D R n)) M' → keM D S R M M' → Q (.inl (some (.int (nI (qn (mdT T (tkN D R n))))))) M') : ∀ (mm : Nat) (j : Nat) (M1 : ab_M), 5 - j = mm → j ≤ n → kn (tkN D R j) = j → keM D S R M M1 → iQR (rQ (tkN D R j) j) M1 → AW sys l ab_Zt k_MO_model 2 48 53 [(4, .int (nI (1))), (3, .int (nI (j))), (2, .int (nI (bsn (tkB (tkN D R j)) 16))), (0, .ref (57)), (1, .int (nI (n)))] [] M1 0 0 Q := by
  intro mm
  induction mm using Nat.strongRecOn with
  | ind mm ih =>
    intro j M1 hk hjn hj hm hq
    have hok := tkN_ok D R j
    refine aw_iload_n d_MO_model_53 rfl 1 rfl ?_
    refine aw_iload_n d_MO_model_54 rfl 4 rfl ?_
    refine aw_icmp_geN (tgt := 173) d_MO_model_55 (by decide) (by omega) (by omega) (fun c1 => ?_) (fun c1 => ?_)
    · skip
      refine aw_pick [1, 3] rfl ?_
      have ej : j = n := by omega
      subst ej
      exact B_md_tail wd wr hn4 hj (by omega) hm hq hQ
    · skip
      refine aw_iload d_MO_model_58 0 rfl ?_
      refine aw_if_eqN (tgt := 173) d_MO_model_60 (by decide) (by omega) (fun c2 => ?_) (fun c2 => ?_)
      · skip
        exact absurd c2 (by decide)
      · skip
        refine aw_iconst (v := -1) d_MO_model_63 (by decide) ?_
        refine aw_istore (lv' := [(5, .int ((-1 : Int32))), (4, .int (nI (1))), (3, .int (nI (j))), (2, .int (nI (bsn (tkB (tkN D R j)) 16))), (0, .ref (57)), (1, .int (nI (n)))]) d_MO_model_64 (by decide) rfl ?_
        refine aw_iconst (v := nI 0) d_MO_model_66 (by decide) ?_
        refine aw_istore (lv' := [(6, .int (nI (0))), (5, .int ((-1 : Int32))), (4, .int (nI (1))), (3, .int (nI (j))), (2, .int (nI (bsn (tkB (tkN D R j)) 16))), (0, .ref (57)), (1, .int (nI (n)))]) d_MO_model_67 (by decide) rfl ?_
        rw [show (-1 : Int32) = oI (bs D R (tkN D R j) 0) from rfl]
        refine B_md_in wd hm.1 wr hm.2.2.1 ?_ _ 0 rfl (by omega)
        have hgm := bs_gm (D := D) (R := R) (x := tkN D R j) (fun w => (wv_ok wd wr w).2.1) hok.1 15
        have hg16 : gm (ks (tkN D R j)) 16 ≤ 15 := gm_lt (ks (tkN D R j)) 15
        by_cases hp : 0 < fz (ks (tkN D R j) (gm (ks (tkN D R j)) 16))
        · rw [if_pos hp] at hgm; rw [hgm]
          have est : tkN D R (j + 1) = (upN (ks (tkN D R j)) (gm (ks (tkN D R j)) 16) FP.dconst0, kn (tkN D R j) + 1, upN (kc (tkN D R j)) (kn (tkN D R j)) (gm (ks (tkN D R j)) 16), upN (kd (tkN D R j)) (kn (tkN D R j)) (ks (tkN D R j) (gm (ks (tkN D R j)) 16))) := by show tkStep _ = _; simp only [tkStep]; rw [if_pos hp]
          have ewv : ks (tkN D R j) (gm (ks (tkN D R j)) 16) = wv D R (gm (ks (tkN D R j)) 16) := by have h9 := hok.1.1 (gm (ks (tkN D R j)) 16); cases e9 : tkB (tkN D R j) (gm (ks (tkN D R j)) 16) with | false => (rw [e9] at h9; exact h9) | true => (rw [e9, if_pos rfl] at h9; rw [h9, fz_zero] at hp; omega)
          show AW _ _ _ _ _ _ _ [(6, .int (nI (16))), (5, .int (nI (gm (ks (tkN D R j)) 16))), (4, .int (nI (1))), (3, .int (nI (j))), (2, .int (nI (bsn (tkB (tkN D R j)) 16))), (0, .ref (57)), (1, .int (nI (n)))] _ _ _ _ _
          refine aw_iload d_MO_model_127 1 rfl ?_
          refine aw_if_lt (tgt := 136) d_MO_model_129 (by decide) (fun c3 => ?_) (fun c3 => ?_)
          · skip
            exact absurd c3 (nI_pos (by omega))
          · skip
            refine aw_iconst (v := nI 1) d_MO_model_132 (by decide) ?_
            refine aw_goto (tgt := 137) d_MO_model_133 (by decide) ?_
            refine aw_istore (lv' := [(4, .int (nI (1))), (6, .int (nI (16))), (5, .int (nI (gm (ks (tkN D R j)) 16))), (3, .int (nI (j))), (2, .int (nI (bsn (tkB (tkN D R j)) 16))), (0, .ref (57)), (1, .int (nI (n)))]) d_MO_model_137 (by decide) rfl ?_
            refine aw_iload d_MO_model_139 0 rfl ?_
            refine aw_if_neN (tgt := 147) d_MO_model_141 (by decide) (by omega) (fun c4 => ?_) (fun c4 => ?_)
            · skip
              refine aw_iload_n d_MO_model_147 rfl 4 rfl ?_
              refine aw_iconst (v := nI 1) d_MO_model_148 (by decide) ?_
              refine aw_iload d_MO_model_149 2 rfl ?_
              refine aw_ishl1 d_MO_model_151 (by omega) ?_
              refine aw_iorN d_MO_model_152 ?_
              refine aw_istore_n (lv' := [(2, .int (nI ((bsn (tkB (tkN D R j)) 16) ||| (2 ^ (gm (ks (tkN D R j)) 16))))), (4, .int (nI (1))), (6, .int (nI (16))), (5, .int (nI (gm (ks (tkN D R j)) 16))), (3, .int (nI (j))), (0, .ref (57)), (1, .int (nI (n)))]) d_MO_model_153 rfl (by decide) rfl ?_
              refine aw_aload_n d_MO_model_154 rfl 5 rfl ?_
              refine aw_iconst (v := nI 0) d_MO_model_155 (by decide) ?_
              refine aw_iload d_MO_model_156 3 rfl ?_
              refine aw_aload_n d_MO_model_158 rfl 5 rfl ?_
              refine aw_iload d_MO_model_159 3 rfl ?_
              refine aw_callV (K' := k_MO_worth) (As := [.int (nI (gm (ks (tkN D R j)) 16))]) (rest := [.int (nI (gm (ks (tkN D R j)) 16)), .int (nI (0)), .ref (57)]) (b := 57) d_MO_model_161 rfl rfl rfl cs_MO_156 rfl (Nat.le_of_ble_eq_true rfl) (Nat.le_of_ble_eq_true rfl) (by decide) (by decide) (d' := 1) (w' := 24) (by decide) (by decide) ?_
              show AW _ _ _ _ _ _ _ [(0, .ref (57)), (1, .int (nI (gm (ks (tkN D R j)) 16)))] _ _ _ _ _
              refine B_worth wd hm.1 wr hm.2.2.1 (by omega) ?_
              refine ab_go1 ?_
              refine aw_callV (K' := k_MO_add) (As := [.int (nI (0)), .int (nI (gm (ks (tkN D R j)) 16)), .double (wv D R (gm (ks (tkN D R j)) 16))]) (rest := []) (b := 57) d_MO_model_164 rfl rfl rfl cs_MO_92 rfl (Nat.le_of_ble_eq_true rfl) (Nat.le_of_ble_eq_true rfl) (by decide) (by decide) (d' := 0) (w' := 0) (by decide) (by decide) ?_
              show AW _ _ _ _ _ _ _ [(0, .ref (57)), (1, .int (nI (0))), (2, .int (nI (gm (ks (tkN D R j)) 16))), (3, .double (wv D R (gm (ks (tkN D R j)) 16)))] _ _ _ _ _
              refine B_add (T := rQ (tkN D R j) j) (by show j + 1 < 24; omega) hq ?_
              refine ab_go0 ?_
              refine aw_iinc (v := (nI (j + 1))) (lv' := [(3, .int (nI (j + 1))), (2, .int (nI ((bsn (tkB (tkN D R j)) 16) ||| (2 ^ (gm (ks (tkN D R j)) 16))))), (4, .int (nI (1))), (6, .int (nI (16))), (5, .int (nI (gm (ks (tkN D R j)) 16))), (0, .ref (57)), (1, .int (nI (n)))]) d_MO_model_167 (j := 4) rfl (nI_add (j) 1) (by decide) rfl ?_
              refine aw_goto (tgt := 53) d_MO_model_170 (by decide) ?_
              refine aw_pick [2, 0, 1, 5, 6] rfl ?_
              rw [show nI ((bsn (tkB (tkN D R j)) 16) ||| (2 ^ (gm (ks (tkN D R j)) 16))) = nI (bsn (tkB (tkN D R (j + 1))) 16) by rw [est]; congr 1; exact tk_or (by omega)]
              exact ih _ (by omega) (j + 1) _ rfl (by omega) (by rw [est]; show kn (tkN D R j) + 1 = j + 1; omega) (keM_fr hm (ad_fr _ _ _ _ _) rfl) (by rw [est]; exact rQ_add hj (by rw [ewv]; exact adR_i hq))
            · skip
              exact absurd c4 (by decide)
        · rw [if_neg hp] at hgm; rw [hgm]
          show AW _ _ _ _ _ _ _ [(6, .int (nI (16))), (5, .int ((-1 : Int32))), (4, .int (nI (1))), (3, .int (nI (j))), (2, .int (nI (bsn (tkB (tkN D R j)) 16))), (0, .ref (57)), (1, .int (nI (n)))] _ _ _ _ _
          have est : tkN D R n = tkN D R j := by have := tkN_stop hp (n - j); rw [show j + (n - j) = n by omega] at this; exact this
          refine aw_iload d_MO_model_127 1 rfl ?_
          refine aw_if_lt (tgt := 136) d_MO_model_129 (by decide) (fun c5 => ?_) (fun c5 => ?_)
          · skip
            refine aw_iconst (v := nI 0) d_MO_model_136 (by decide) ?_
            refine aw_istore (lv' := [(4, .int (nI (0))), (6, .int (nI (16))), (5, .int ((-1 : Int32))), (3, .int (nI (j))), (2, .int (nI (bsn (tkB (tkN D R j)) 16))), (0, .ref (57)), (1, .int (nI (n)))]) d_MO_model_137 (by decide) rfl ?_
            refine aw_iload d_MO_model_139 0 rfl ?_
            refine aw_if_neN (tgt := 147) d_MO_model_141 (by decide) (by omega) (fun c6 => ?_) (fun c6 => ?_)
            · skip
              exact absurd c6 (by decide)
            · skip
              refine aw_goto (tgt := 53) d_MO_model_144 (by decide) ?_
              refine aw_iload_n d_MO_model_53 rfl 3 rfl ?_
              refine aw_iload_n d_MO_model_54 rfl 6 rfl ?_
              refine aw_icmp_geN (tgt := 173) d_MO_model_55 (by decide) (by omega) (by omega) (fun c7 => ?_) (fun c7 => ?_)
              · skip
                refine aw_pick [3, 5] rfl ?_
                exact B_md_tail wd wr hn4 (by rw [est]; exact hj) (by omega) hm (by rw [est]; exact hq) hQ
              · skip
                refine aw_iload d_MO_model_58 0 rfl ?_
                refine aw_if_eqN (tgt := 173) d_MO_model_60 (by decide) (by omega) (fun c8 => ?_) (fun c8 => ?_)
                · skip
                  refine aw_pick [3, 5] rfl ?_
                  exact B_md_tail wd wr hn4 (by rw [est]; exact hj) (by omega) hm (by rw [est]; exact hq) hQ
                · skip
                  exact absurd c8 (by decide)
          · skip
            exact absurd c5 (by decide)
set_option maxRecDepth 4000 in
theorem R_model_bad {l : Launch} {M : ab_M} {Q : ab_O → ab_M → Prop} {x : Int32} (hb : x.toInt < 1 ∨ 4 < x.toInt) (hQ : Q (.inl (some (.int (nI 0)))) (thrM 1 M)) : AW sys l ab_Zt k_MO_model 2 48 0 [(0, .ref (57)), (1, .int (x))] [] M 0 0 Q := by
  refine aw_iload_n d_MO_model_0 rfl 1 rfl ?_
  refine aw_iconst (v := nI 1) d_MO_model_1 (by decide) ?_
  refine aw_iconst (v := nI 4) d_MO_model_2 (by decide) ?_
  refine aw_callS (K' := k_MO_in) (As := [.int (x), .int (nI (1)), .int (nI (4))]) (rest := []) d_MO_model_3 rfl cs_MO_54 rfl (Nat.le_of_ble_eq_true rfl) (Nat.le_of_ble_eq_true rfl) (by decide) (by decide) (d' := 0) (w' := 0) (by decide) (by decide) ?_
  show AW _ _ _ _ _ _ _ [(0, .int (x)), (1, .int (nI (1))), (2, .int (nI (4)))] _ _ _ _ _
  refine aw_iload_n d_MO_in_0 rfl 0 rfl ?_
  refine aw_iload_n d_MO_in_1 rfl 1 rfl ?_
  refine at_lt rfl (nI_toInt (by omega)) (tgt := 14) d_MO_in_2 (by decide) (fun c1 => ?_) (fun c1 => ?_)
  · skip
    refine aw_iconst (v := nI 0) d_MO_in_14 (by decide) ?_
    refine aw_zret (Or.inl rfl) d_MO_in_15 rfl (by decide) (by decide) (ab_go1 ?_)
    refine aw_if_neN (tgt := 15) d_MO_model_6 (by decide) (by omega) (fun c2 => ?_) (fun c2 => ?_)
    · skip
      exact absurd c2 (by decide)
    · skip
      refine aw_aload_n d_MO_model_9 rfl 0 rfl ?_
      refine aw_iconst (v := nI 1) d_MO_model_10 (by decide) ?_
      refine aw_callV (K' := k_MO_refuse) (As := [.int (nI (1))]) (rest := []) (b := 57) d_MO_model_11 rfl rfl rfl cs_MO_58 rfl (Nat.le_of_ble_eq_true rfl) (Nat.le_of_ble_eq_true rfl) (by decide) (by decide) (d' := 0) (w' := 0) (by decide) (by decide) ?_
      show AW _ _ _ _ _ _ _ [(0, .ref (57)), (1, .int (nI (1)))] _ _ _ _ _
      refine aw_aload_n d_MO_refuse_0 rfl 0 rfl ?_
      refine aw_iload_n d_MO_refuse_1 rfl 1 rfl ?_
      refine aw_putI (ic := 57) (ci := 6) (k := 0) d_MO_refuse_2 rfl rfl (by decide) rfl rfl rfl mw_775 ?_
      refine aw_iconst (v := nI 0) d_MO_refuse_5 (by decide) ?_
      refine aw_iret d_MO_refuse_6 rfl (by decide) (by decide) (ab_go1 ?_)
      refine aw_iret d_MO_model_14 rfl (by decide) (by decide) ?_
      first | exact hQ | (exfalso; omega)
  · skip
    refine aw_iload_n d_MO_in_5 rfl 0 rfl ?_
    refine aw_iload_n d_MO_in_6 rfl 2 rfl ?_
    refine at_gt rfl (nI_toInt (by omega)) (tgt := 14) d_MO_in_7 (by decide) (fun c3 => ?_) (fun c3 => ?_)
    · skip
      refine aw_iconst (v := nI 0) d_MO_in_14 (by decide) ?_
      refine aw_zret (Or.inl rfl) d_MO_in_15 rfl (by decide) (by decide) (ab_go1 ?_)
      refine aw_if_neN (tgt := 15) d_MO_model_6 (by decide) (by omega) (fun c4 => ?_) (fun c4 => ?_)
      · skip
        exact absurd c4 (by decide)
      · skip
        refine aw_aload_n d_MO_model_9 rfl 0 rfl ?_
        refine aw_iconst (v := nI 1) d_MO_model_10 (by decide) ?_
        refine aw_callV (K' := k_MO_refuse) (As := [.int (nI (1))]) (rest := []) (b := 57) d_MO_model_11 rfl rfl rfl cs_MO_58 rfl (Nat.le_of_ble_eq_true rfl) (Nat.le_of_ble_eq_true rfl) (by decide) (by decide) (d' := 0) (w' := 0) (by decide) (by decide) ?_
        show AW _ _ _ _ _ _ _ [(0, .ref (57)), (1, .int (nI (1)))] _ _ _ _ _
        refine aw_aload_n d_MO_refuse_0 rfl 0 rfl ?_
        refine aw_iload_n d_MO_refuse_1 rfl 1 rfl ?_
        refine aw_putI (ic := 57) (ci := 6) (k := 0) d_MO_refuse_2 rfl rfl (by decide) rfl rfl rfl mw_775 ?_
        refine aw_iconst (v := nI 0) d_MO_refuse_5 (by decide) ?_
        refine aw_iret d_MO_refuse_6 rfl (by decide) (by decide) (ab_go1 ?_)
        refine aw_iret d_MO_model_14 rfl (by decide) (by decide) ?_
        first | exact hQ | (exfalso; omega)
    · skip
      refine aw_iconst (v := nI 1) d_MO_in_10 (by decide) ?_
      refine aw_goto (tgt := 15) d_MO_in_11 (by decide) ?_
      refine aw_zret (Or.inr rfl) d_MO_in_15 rfl (by decide) (by decide) (ab_go1 ?_)
      refine aw_if_neN (tgt := 15) d_MO_model_6 (by decide) (by omega) (fun c5 => ?_) (fun c5 => ?_)
      · skip
        exfalso; omega
      · skip
        exact absurd c5 (by decide)
set_option maxRecDepth 4000 in
theorem R_model {l : Launch} {M : ab_M} {Q : ab_O → ab_M → Prop} {D : Dg} {R : Rg} (wd : wD D) (dr : iDR D M) (wr : wR D R) (rr : iRR R M) {S : Sg} (sr : iSR S M) {T : Qg} {n : Nat} (hn1 : 1 ≤ n) (hn4 : n ≤ 4) (hF : rn R = 0 → Q (.inl (some (.int (nI 0)))) (thrM 2 M)) (hO : 0 < rn R → ∀ M', iQR (mdT T (tkN D R n)) M' → keM D S R M M' → Q (.inl (some (.int (nI (qn (mdT T (tkN D R n))))))) M') : AW sys l ab_Zt k_MO_model 2 48 0 [(0, .ref (57)), (1, .int (nI (n)))] [] M 0 0 Q := by
  have hr12 := wr.1
  refine aw_iload_n d_MO_model_0 rfl 1 rfl ?_
  refine aw_iconst (v := nI 1) d_MO_model_1 (by decide) ?_
  refine aw_iconst (v := nI 4) d_MO_model_2 (by decide) ?_
  refine aw_callS (K' := k_MO_in) (As := [.int (nI (n)), .int (nI (1)), .int (nI (4))]) (rest := []) d_MO_model_3 rfl cs_MO_54 rfl (Nat.le_of_ble_eq_true rfl) (Nat.le_of_ble_eq_true rfl) (by decide) (by decide) (d' := 0) (w' := 0) (by decide) (by decide) ?_
  show AW _ _ _ _ _ _ _ [(0, .int (nI (n))), (1, .int (nI (1))), (2, .int (nI (4)))] _ _ _ _ _
  refine aw_iload_n d_MO_in_0 rfl 0 rfl ?_
  refine aw_iload_n d_MO_in_1 rfl 1 rfl ?_
  refine aw_icmp_ltN (tgt := 14) d_MO_in_2 (by decide) (by omega) (by omega) (fun c1 => ?_) (fun c1 => ?_)
  · skip
    refine aw_iconst (v := nI 0) d_MO_in_14 (by decide) ?_
    refine aw_zret (Or.inl rfl) d_MO_in_15 rfl (by decide) (by decide) (ab_go1 ?_)
    refine aw_if_neN (tgt := 15) d_MO_model_6 (by decide) (by omega) (fun c2 => ?_) (fun c2 => ?_)
    · skip
      exact absurd c2 (by decide)
    · skip
      exfalso; omega
  · skip
    refine aw_iload_n d_MO_in_5 rfl 0 rfl ?_
    refine aw_iload_n d_MO_in_6 rfl 2 rfl ?_
    refine aw_icmp_gtN (tgt := 14) d_MO_in_7 (by decide) (by omega) (by omega) (fun c3 => ?_) (fun c3 => ?_)
    · skip
      refine aw_iconst (v := nI 0) d_MO_in_14 (by decide) ?_
      refine aw_zret (Or.inl rfl) d_MO_in_15 rfl (by decide) (by decide) (ab_go1 ?_)
      refine aw_if_neN (tgt := 15) d_MO_model_6 (by decide) (by omega) (fun c4 => ?_) (fun c4 => ?_)
      · skip
        exact absurd c4 (by decide)
      · skip
        exfalso; omega
    · skip
      refine aw_iconst (v := nI 1) d_MO_in_10 (by decide) ?_
      refine aw_goto (tgt := 15) d_MO_in_11 (by decide) ?_
      refine aw_zret (Or.inr rfl) d_MO_in_15 rfl (by decide) (by decide) (ab_go1 ?_)
      refine aw_if_neN (tgt := 15) d_MO_model_6 (by decide) (by omega) (fun c5 => ?_) (fun c5 => ?_)
      · skip
        refine aw_aload_n d_MO_model_15 rfl 0 rfl ?_
        refine aw_get (ic := 57) (ci := 6) (k := 18) d_MO_model_16 rfl rfl (by decide) rfl mw_793 rfl ?_
        refine aw_eqi (nI (rn R)) rr.1 ?_
        refine aw_if_neN (tgt := 28) d_MO_model_19 (by decide) (by omega) (fun c6 => ?_) (fun c6 => ?_)
        · skip
          refine aw_aload_n d_MO_model_28 rfl 0 rfl ?_
          refine aw_iconst (v := nI 0) d_MO_model_29 (by decide) ?_
          refine aw_putI (ic := 57) (ci := 6) (k := 0) d_MO_model_30 rfl rfl (by decide) rfl rfl rfl mw_775 ?_
          refine aw_iconst (v := nI 0) d_MO_model_33 (by decide) ?_
          refine aw_istore_n (lv' := [(2, .int (nI (0))), (0, .ref (57)), (1, .int (nI (n)))]) d_MO_model_34 rfl (by decide) rfl ?_
          refine aw_iconst (v := nI 0) d_MO_model_35 (by decide) ?_
          refine aw_istore_n (lv' := [(3, .int (nI (0))), (2, .int (nI (0))), (0, .ref (57)), (1, .int (nI (n)))]) d_MO_model_36 rfl (by decide) rfl ?_
          refine aw_aload_n d_MO_model_37 rfl 2 rfl ?_
          refine aw_iconst (v := nI 0) d_MO_model_38 (by decide) ?_
          refine aw_putI (ic := 57) (ci := 6) (k := 8) d_MO_model_39 rfl rfl (by decide) rfl rfl rfl mw_783 ?_
          refine aw_aload_n d_MO_model_42 rfl 2 rfl ?_
          refine aw_bipush (v := nI 9) d_MO_model_43 (by decide) ?_
          refine aw_iconst (v := nI 0) d_MO_model_45 (by decide) ?_
          refine aw_dconst1 d_MO_model_46 ?_
          refine aw_callV (K' := k_MO_add) (As := [.int (nI (9)), .int (nI (0)), .double (FP.dconst1)]) (rest := []) (b := 57) d_MO_model_47 rfl rfl rfl cs_MO_92 rfl (Nat.le_of_ble_eq_true rfl) (Nat.le_of_ble_eq_true rfl) (by decide) (by decide) (d' := 0) (w' := 0) (by decide) (by decide) ?_
          show AW _ _ _ _ _ _ _ [(0, .ref (57)), (1, .int (nI (9))), (2, .int (nI (0))), (3, .double (FP.dconst1))] _ _ _ _ _
          refine B_add (T := noQ T) (show (0 : Nat) < 24 by omega) clr_iq ?_
          refine ab_go0 ?_
          refine aw_iconst (v := nI 1) d_MO_model_50 (by decide) ?_
          refine aw_istore (lv' := [(4, .int (nI (1))), (3, .int (nI (0))), (2, .int (nI (0))), (0, .ref (57)), (1, .int (nI (n)))]) d_MO_model_51 (by decide) rfl ?_
          have h8 := B_md_loop (l := l) (T := T) wd wr hn4 (fun M' => hO (by omega) M') _ 0 (md0 T M) rfl (by omega) md0_k (md0_ke dr sr rr) md0_q
          rw [md0_t] at h8
          exact h8
        · skip
          refine aw_aload_n d_MO_model_22 rfl 0 rfl ?_
          refine aw_iconst (v := nI 2) d_MO_model_23 (by decide) ?_
          refine aw_callV (K' := k_MO_refuse) (As := [.int (nI (2))]) (rest := []) (b := 57) d_MO_model_24 rfl rfl rfl cs_MO_58 rfl (Nat.le_of_ble_eq_true rfl) (Nat.le_of_ble_eq_true rfl) (by decide) (by decide) (d' := 0) (w' := 0) (by decide) (by decide) ?_
          show AW _ _ _ _ _ _ _ [(0, .ref (57)), (1, .int (nI (2)))] _ _ _ _ _
          refine aw_aload_n d_MO_refuse_0 rfl 0 rfl ?_
          refine aw_iload_n d_MO_refuse_1 rfl 1 rfl ?_
          refine aw_putI (ic := 57) (ci := 6) (k := 0) d_MO_refuse_2 rfl rfl (by decide) rfl rfl rfl mw_775 ?_
          refine aw_iconst (v := nI 0) d_MO_refuse_5 (by decide) ?_
          refine aw_iret d_MO_refuse_6 rfl (by decide) (by decide) (ab_go1 ?_)
          refine aw_iret d_MO_model_27 rfl (by decide) (by decide) ?_
          exact hF (by omega)
      · skip
        exact absurd c5 (by decide)
