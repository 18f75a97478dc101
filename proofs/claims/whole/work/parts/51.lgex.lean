/-! doubles walked: LG, EX, ratio, smoothing (rows laid by gen/m5.py) -/
theorem ng_dec (k : Nat) : ngI k + Int32.ofInt (-1) = ngI (k + 1) := by
  simp only [ngI]
  rw [← nI_add k 1, Int32.sub_eq_add_neg, Int32.sub_eq_add_neg, Int32.neg_add, Int32.sub_eq_add_neg, Int32.add_assoc]
  rfl
theorem ng_inc {k : Nat} (h : 0 < k) : ngI k + Int32.ofInt 1 = ngI (k - 1) := by
  obtain ⟨j, rfl⟩ : ∃ j, k = j + 1 := ⟨k - 1, by omega⟩
  rw [← ng_dec j, Int32.add_assoc]
  show ngI j + (Int32.ofInt (-1) + Int32.ofInt 1) = ngI j
  rw [show Int32.ofInt (-1) + Int32.ofInt 1 = 0 by decide, Int32.add_zero]
theorem ng_60 : ∀ k, k < 60 → ¬ ngI k ≤ (-60 : Int32) := by decide +kernel
theorem ng_le {j k : Nat} (hj : j < 100) (hk : k < 100) : ngI j ≤ ngI k ↔ k ≤ j := by rw [Int32.le_iff_toInt_le, ng_int j hj, ng_int k hk]; omega
theorem ng_le0 {k : Nat} (hk : k < 100) : ngI k ≤ nI 0 := by rw [show nI 0 = ngI 0 by decide]; exact (ng_le hk (by omega)).mpr (by omega)
theorem aw_if_geG {Y : ab_Y} {l : Launch} {Z : (Nat → Nat) → State → Prop} {K : ab_K} {d w pc : Nat} {lv : List (Nat × Value)} {st : List Value} {M : ab_M} {n1 n2 : Nat} {Q : ab_O → ab_M → Prop} {k : Nat} {off : Int} {tgt : Nat} (hk : k < 100) (hd : decode (kB K) pc = .ok (.ifCond .ge off, 3)) (ht : (pc : Int) + off = (tgt : Int)) (kt : k = 0 → AW Y l Z K d w tgt lv st M n1 n2 Q) (kf : 0 < k → AW Y l Z K d w (pc + 3) lv st M n1 n2 Q) : AW Y l Z K d w pc lv (.int (ngI k) :: st) M n1 n2 Q := by
  have e : (0 : Int32) = ngI 0 := by decide
  refine aw_if_ge hd ht (fun c => kt ?_) (fun c => kf ?_)
  · rw [e, ng_le (by omega) hk] at c; omega
  · rw [e, ng_le (by omega) hk] at c; omega
theorem lgK_at {x : UInt64} {k : Nat} (hk : k ≤ 60) (hb : ∀ j, j < k → fz (dbl x j) < f1) (h : f1 ≤ fz (dbl x k)) : lgK x = k := by
  obtain ⟨s1, s2, s3, s4⟩ := nx_spec (f := lgf x) (n := 61) _ 0 rfl (by omega)
  rcases Nat.lt_trichotomy (lgK x) k with h1 | h1 | h1
  · have e1 : nx (lgf x) 61 0 < k := h1
    have := s4 (by omega)
    simp only [lgf, decide_eq_true_eq] at this
    have := hb _ e1
    omega
  · exact h1
  · have e1 : k < nx (lgf x) 61 0 := h1
    have := s3 k (by omega) e1
    simp only [lgf, decide_eq_false_iff_not] at this
    omega

set_option maxRecDepth 4000 in
theorem A_lg_loop {l : Launch} {M : ab_M} {Q : ab_O → ab_M → Prop} {x : UInt64} (hx : f01 x) (h0 : fz (pw 0) < fz x) (hQ : Q (.inl (some (.double (lgV x)))) M) : ∀ (mm : Nat) (k : Nat), 61 - k = mm → (hk6 : k ≤ 60) → (hb : ∀ j, j < k → fz (dbl x j) < f1) → AW sys l ab_Zt k_BF_lg 0 0 45 [(4, .int (ngI (k))), (2, .double (dbl x k)), (0, .double (x))] [] M 0 0 Q := by
  intro mm
  induction mm using Nat.strongRecOn with
  | ind mm ih =>
    intro k hk hk6 hb
    obtain ⟨e1, e2, e3, e4⟩ := dbl_ok hx.1 h0 hx.2.2 k hk6 hb
    have sf : f1 ≤ fz (dbl x k) → fF (FP.dsub (dbl x k) FP.dconst1) := fun h => f_fin (f_sub_n e1 fF_one) fF_zero fF_one (f_sub_ge e1 fF_one fF_zero.n (by rw [fz_zero, fz_one]; omega)) (f_sub_le e1 fF_one fF_one.n (by rw [fz_one]; have := f1_pos; omega))
    refine aw_dload_n d_BF_lg_45 rfl 1 rfl ?_
    refine aw_dconst1 d_BF_lg_46 ?_
    refine aw_dcmp d_BF_lg_47 ?_
    refine ad_ge e1.n fF_one.n d_BF_lg_48 (tgt := 70) (by decide) (fun c1 => ?_) (fun c1 => ?_)
    · skip
      refine aw_iload d_BF_lg_70 0 rfl ?_
      refine aw_i2d d_BF_lg_72 ?_
      refine aw_dload_n d_BF_lg_73 rfl 1 rfl ?_
      refine aw_dconst1 d_BF_lg_74 ?_
      refine aw_dsub d_BF_lg_75 (f_n64 (f_sub_n e1 fF_one)) ?_
      refine aw_dadd d_BF_lg_76 (f_n64 (f_add_n (fF_i _) (sf (by have h9 := c1; rw [fz_one] at h9; exact h9)))) ?_
      refine aw_eqd (FP.dadd (FP.i2d (ngI k)) (FP.dsub (dbl x k) FP.dconst1)) rfl ?_
      refine aw_dret d_BF_lg_77 rfl (by decide) (by decide) ?_
      exact q_d (by simp only [lgV]; rw [lgK_at hk6 hb (by have h9 := c1; rw [fz_one] at h9; exact h9)]) hQ
    · skip
      refine aw_iload d_BF_lg_51 0 rfl ?_
      refine aw_bipush (v := -60) d_BF_lg_53 (by decide) ?_
      refine aw_icmp_le (tgt := 70) d_BF_lg_55 (by decide) (fun c2 => ?_) (fun c2 => ?_)
      · skip
        exact absurd c2 (ng_60 k (by rcases Nat.lt_or_ge k 60 with h9 | h9; exact h9; exfalso; rw [show k = 60 by omega, pw_60] at e4; rw [fz_one] at c1; rw [show k = 60 by omega] at c1; omega))
      · skip
        refine aw_dload_n d_BF_lg_58 rfl 1 rfl ?_
        refine aw_ldc2d (v := 4611686018427387904) d_BF_lg_59 mw_383 ?_
        refine aw_dmul d_BF_lg_62 (f_n64 (f_mul_n e1 fF_2)) ?_
        refine aw_eqd (dbl x (k + 1)) rfl ?_
        refine aw_dstore_n (lv' := [(2, .double (dbl x (k + 1))), (4, .int (ngI (k))), (0, .double (x))]) d_BF_lg_63 rfl (by decide) rfl ?_
        refine aw_iinc (v := (ngI (k + 1))) (lv' := [(4, .int (ngI (k + 1))), (2, .double (dbl x (k + 1))), (0, .double (x))]) d_BF_lg_64 (j := 1) rfl (ng_dec (k)) (by decide) rfl ?_
        refine aw_goto (tgt := 45) d_BF_lg_67 (by decide) ?_
        exact ih _ (by omega) (k + 1) rfl (by rcases Nat.lt_or_ge k 60 with h9 | h9; omega; exfalso; rw [show k = 60 by omega, pw_60] at e4; rw [fz_one] at c1; rw [show k = 60 by omega] at c1; omega) (fun j hj => by rw [fz_one] at c1; rcases Nat.lt_or_ge j k with h9 | h9; exact hb j h9; rw [show j = k by omega]; exact c1)
set_option maxRecDepth 4000 in
theorem A_lg {l : Launch} {M : ab_M} {Q : ab_O → ab_M → Prop} {x : UInt64} (hx : f01 x) (hQ : Q (.inl (some (.double (lgD x)))) M) : AW sys l ab_Zt k_BF_lg 0 0 0 [(0, .double (x))] [] M 0 0 Q := by
  refine aw_dload_n d_BF_lg_0 rfl 0 rfl ?_
  refine aw_ldc2d (v := 4336966441157787648) d_BF_lg_1 mw_571 ?_
  refine aw_dcmp d_BF_lg_4 ?_
  refine ad_gt hx.1.n fF_t60.n d_BF_lg_5 (tgt := 12) (by decide) (fun c1 => ?_) (fun c1 => ?_)
  · skip
    refine aw_dload_n d_BF_lg_12 rfl 0 rfl ?_
    refine aw_dstore_n (lv' := [(2, .double (x)), (0, .double (x))]) d_BF_lg_13 rfl (by decide) rfl ?_
    refine aw_iconst (v := nI 0) d_BF_lg_14 (by decide) ?_
    refine aw_istore (lv' := [(4, .int (nI (0))), (2, .double (x)), (0, .double (x))]) d_BF_lg_15 (by decide) rfl ?_
    refine aw_dload_n d_BF_lg_17 rfl 1 rfl ?_
    refine aw_ldc2d (v := 4611686018427387904) d_BF_lg_18 mw_383 ?_
    refine aw_dcmp d_BF_lg_21 ?_
    refine ad_lt hx.1.n fF_2.n d_BF_lg_22 (tgt := 45) (by decide) (fun c2 => ?_) (fun c2 => ?_)
    · skip
      exact A_lg_loop hx (by rw [← fz_t60]; exact c1) (by simp only [lgD] at hQ; rw [if_neg (by omega)] at hQ; exact hQ) _ 0 rfl (by omega) (fun j hj => by omega)
    · skip
      exfalso; rw [fz_2] at c2; have := f1_pos; have := hx.2.2; omega
  · skip
    refine aw_ldc2d (v := 13857013103465594880) d_BF_lg_8 mw_572 ?_
    refine aw_dret d_BF_lg_11 rfl (by decide) (by decide) ?_
    exact q_d (by simp only [lgD]; rw [if_pos c1]) hQ
set_option maxRecDepth 4000 in
theorem B_lg_loop {l : Launch} {M : ab_M} {Q : ab_O → ab_M → Prop} {x : UInt64} (hx : f01 x) (h0 : fz (pw 0) < fz x) (hQ : Q (.inl (some (.double (lgV x)))) M) : ∀ (mm : Nat) (k : Nat), 61 - k = mm → (hk6 : k ≤ 60) → (hb : ∀ j, j < k → fz (dbl x j) < f1) → AW sys l ab_Zt k_MO_lg 0 0 37 [(4, .int (ngI (k))), (2, .double (dbl x k)), (0, .double (x))] [] M 0 0 Q := by
  intro mm
  induction mm using Nat.strongRecOn with
  | ind mm ih =>
    intro k hk hk6 hb
    obtain ⟨e1, e2, e3, e4⟩ := dbl_ok hx.1 h0 hx.2.2 k hk6 hb
    have sf : f1 ≤ fz (dbl x k) → fF (FP.dsub (dbl x k) FP.dconst1) := fun h => f_fin (f_sub_n e1 fF_one) fF_zero fF_one (f_sub_ge e1 fF_one fF_zero.n (by rw [fz_zero, fz_one]; omega)) (f_sub_le e1 fF_one fF_one.n (by rw [fz_one]; have := f1_pos; omega))
    refine aw_dload_n d_MO_lg_37 rfl 1 rfl ?_
    refine aw_dconst1 d_MO_lg_38 ?_
    refine aw_dcmp d_MO_lg_39 ?_
    refine ad_ge e1.n fF_one.n d_MO_lg_40 (tgt := 55) (by decide) (fun c1 => ?_) (fun c1 => ?_)
    · skip
      refine aw_iload d_MO_lg_55 0 rfl ?_
      refine aw_i2d d_MO_lg_57 ?_
      refine aw_dload_n d_MO_lg_58 rfl 1 rfl ?_
      refine aw_dconst1 d_MO_lg_59 ?_
      refine aw_dsub d_MO_lg_60 (f_n64 (f_sub_n e1 fF_one)) ?_
      refine aw_dadd d_MO_lg_61 (f_n64 (f_add_n (fF_i _) (sf (by have h9 := c1; rw [fz_one] at h9; exact h9)))) ?_
      refine aw_eqd (FP.dadd (FP.i2d (ngI k)) (FP.dsub (dbl x k) FP.dconst1)) rfl ?_
      refine aw_dret d_MO_lg_62 rfl (by decide) (by decide) ?_
      exact q_d (by simp only [lgV]; rw [lgK_at hk6 hb (by have h9 := c1; rw [fz_one] at h9; exact h9)]) hQ
    · skip
      refine aw_dload_n d_MO_lg_43 rfl 1 rfl ?_
      refine aw_ldc2d (v := 4611686018427387904) d_MO_lg_44 mw_774 ?_
      refine aw_dmul d_MO_lg_47 (f_n64 (f_mul_n e1 fF_2)) ?_
      refine aw_eqd (dbl x (k + 1)) rfl ?_
      refine aw_dstore_n (lv' := [(2, .double (dbl x (k + 1))), (4, .int (ngI (k))), (0, .double (x))]) d_MO_lg_48 rfl (by decide) rfl ?_
      refine aw_iinc (v := (ngI (k + 1))) (lv' := [(4, .int (ngI (k + 1))), (2, .double (dbl x (k + 1))), (0, .double (x))]) d_MO_lg_49 (j := 1) rfl (ng_dec (k)) (by decide) rfl ?_
      refine aw_goto (tgt := 37) d_MO_lg_52 (by decide) ?_
      exact ih _ (by omega) (k + 1) rfl (by rcases Nat.lt_or_ge k 60 with h9 | h9; omega; exfalso; rw [show k = 60 by omega, pw_60] at e4; rw [fz_one] at c1; rw [show k = 60 by omega] at c1; omega) (fun j hj => by rw [fz_one] at c1; rcases Nat.lt_or_ge j k with h9 | h9; exact hb j h9; rw [show j = k by omega]; exact c1)
set_option maxRecDepth 4000 in
theorem B_lg {l : Launch} {M : ab_M} {Q : ab_O → ab_M → Prop} {x : UInt64} (hx : f01 x) (hQ : Q (.inl (some (.double (lgD x)))) M) : AW sys l ab_Zt k_MO_lg 0 0 0 [(0, .double (x))] [] M 0 0 Q := by
  refine aw_dload_n d_MO_lg_0 rfl 0 rfl ?_
  refine aw_dstore_n (lv' := [(2, .double (x)), (0, .double (x))]) d_MO_lg_1 rfl (by decide) rfl ?_
  refine aw_iconst (v := nI 0) d_MO_lg_2 (by decide) ?_
  refine aw_istore (lv' := [(4, .int (nI (0))), (2, .double (x)), (0, .double (x))]) d_MO_lg_3 (by decide) rfl ?_
  refine aw_dload_n d_MO_lg_5 rfl 2 rfl ?_
  refine aw_ldc2d (v := 4336966441157787648) d_MO_lg_6 mw_936 ?_
  refine aw_dcmp d_MO_lg_9 ?_
  refine ad_gt hx.1.n fF_t60.n d_MO_lg_10 (tgt := 17) (by decide) (fun c1 => ?_) (fun c1 => ?_)
  · skip
    refine aw_dload_n d_MO_lg_17 rfl 1 rfl ?_
    refine aw_ldc2d (v := 4611686018427387904) d_MO_lg_18 mw_774 ?_
    refine aw_dcmp d_MO_lg_21 ?_
    refine ad_lt hx.1.n fF_2.n d_MO_lg_22 (tgt := 37) (by decide) (fun c2 => ?_) (fun c2 => ?_)
    · skip
      exact B_lg_loop hx (by rw [← fz_t60]; exact c1) (by simp only [lgD] at hQ; rw [if_neg (by omega)] at hQ; exact hQ) _ 0 rfl (by omega) (fun j hj => by omega)
    · skip
      exfalso; rw [fz_2] at c2; have := f1_pos; have := hx.2.2; omega
  · skip
    refine aw_ldc2d (v := 13857013103465594880) d_MO_lg_13 mw_937 ?_
    refine aw_dret d_MO_lg_16 rfl (by decide) (by decide) ?_
    exact q_d (by simp only [lgD]; rw [if_pos c1]) hQ
set_option maxRecDepth 4000 in
theorem A_ex_loop {l : Launch} {M : ab_M} {Q : ab_O → ab_M → Prop} {v : UInt64} (hn : fN v) (h0 : fz v ≤ 0) (h1 : -60 * f1 < fz v) (hQ : Q (.inl (some (.double (hlv (exX v) (exK v))))) M) : ∀ (mm : Nat) (r : Nat), r = mm → (hr : r ≤ exK v) → AW sys l ab_Zt k_BF_ex 0 0 33 [(5, .int (ngI (r))), (3, .double (hlv (exX v) (exK v - r))), (2, .int (ngI (exK v))), (0, .double (v))] [] M 0 0 Q := by
  intro mm
  induction mm using Nat.strongRecOn with
  | ind mm ih =>
    intro r hk hr
    have hf : fF v := f_fin hn fF_m60 fF_zero (by rw [fz_m60]; omega) (by rw [fz_zero]; exact h0)
    obtain ⟨k1, k2, k3, k4⟩ := ex_k hn h0 h1
    obtain ⟨x1, x2, x3, x4, x5⟩ := ex_x hf h0 h1
    have hx0 : 0 ≤ fz (exX v) := by have := f1_pos; omega
    refine aw_iload d_BF_ex_33 0 rfl ?_
    refine aw_if_geG (by omega) d_BF_ex_35 (tgt := 50) (by decide) (fun c1 => ?_) (fun c1 => ?_)
    · skip
      refine aw_iconst (v := nI 0) d_BF_ex_50 (by decide) ?_
      refine aw_istore (lv' := [(5, .int (nI (0))), (3, .double (hlv (exX v) (exK v - r))), (2, .int (ngI (exK v))), (0, .double (v))]) d_BF_ex_51 (by decide) rfl ?_
      refine aw_iload d_BF_ex_53 0 rfl ?_
      refine aw_iload_n d_BF_ex_55 rfl 2 rfl ?_
      refine aw_icmp_ge (tgt := 71) d_BF_ex_56 (by decide) (fun c2 => ?_) (fun c2 => ?_)
      · skip
        refine aw_dload_n d_BF_ex_71 rfl 1 rfl ?_
        refine aw_dret d_BF_ex_72 rfl (by decide) (by decide) ?_
        exact q_d (by rw [show exK v - r = exK v by omega]) hQ
      · skip
        exact absurd (ng_le0 (by omega)) c2
    · skip
      refine aw_dload_n d_BF_ex_38 rfl 1 rfl ?_
      refine aw_ldc2d (v := 4611686018427387904) d_BF_ex_39 mw_383 ?_
      refine aw_ddiv d_BF_ex_42 (f_n64 (f_div_n (hlv_ok x2 hx0 x4 _).1 fF_2 (by rw [fz_2]; have := f1_pos; omega))) ?_
      refine aw_eqd (hlv (exX v) (exK v - (r - 1))) (by rw [show exK v - (r - 1) = exK v - r + 1 by omega]; rfl) ?_
      refine aw_dstore_n (lv' := [(3, .double (hlv (exX v) (exK v - (r - 1)))), (5, .int (ngI (r))), (2, .int (ngI (exK v))), (0, .double (v))]) d_BF_ex_43 rfl (by decide) rfl ?_
      refine aw_iinc (v := (ngI (r - 1))) (lv' := [(5, .int (ngI (r - 1))), (3, .double (hlv (exX v) (exK v - (r - 1)))), (2, .int (ngI (exK v))), (0, .double (v))]) d_BF_ex_44 (j := 1) rfl (ng_inc (by omega)) (by decide) rfl ?_
      refine aw_goto (tgt := 33) d_BF_ex_47 (by decide) ?_
      exact ih _ (by omega) (r - 1) rfl (by omega)
set_option maxRecDepth 4000 in
theorem A_ex_tail {l : Launch} {M : ab_M} {Q : ab_O → ab_M → Prop} {v : UInt64} (hn : fN v) (h0 : fz v ≤ 0) (h1 : -60 * f1 < fz v) (hQ : Q (.inl (some (.double (hlv (exX v) (exK v))))) M) : AW sys l ab_Zt k_BF_ex 0 0 23 [(2, .int (ngI (exK v))), (0, .double (v))] [] M 0 0 Q := by
  have hf : fF v := f_fin hn fF_m60 fF_zero (by rw [fz_m60]; omega) (by rw [fz_zero]; exact h0)
  obtain ⟨k1, k2, k3, k4⟩ := ex_k hn h0 h1
  obtain ⟨x1, x2, x3, x4, x5⟩ := ex_x hf h0 h1
  have hx0 : 0 ≤ fz (exX v) := by have := f1_pos; omega
  refine aw_dconst1 d_BF_ex_23 ?_
  refine aw_dload_n d_BF_ex_24 rfl 1 rfl ?_
  refine aw_iload_n d_BF_ex_25 rfl 0 rfl ?_
  refine aw_i2d d_BF_ex_26 ?_
  refine aw_dsub d_BF_ex_27 (f_n64 (f_sub_n hf (fF_i _))) ?_
  refine aw_dadd d_BF_ex_28 (f_n64 (f_add_n fF_one x1)) ?_
  refine aw_eqd (exX v) rfl ?_
  refine aw_dstore_n (lv' := [(3, .double (exX v)), (2, .int (ngI (exK v))), (0, .double (v))]) d_BF_ex_29 rfl (by decide) rfl ?_
  refine aw_iload_n d_BF_ex_30 rfl 1 rfl ?_
  refine aw_istore (lv' := [(5, .int (ngI (exK v))), (3, .double (exX v)), (2, .int (ngI (exK v))), (0, .double (v))]) d_BF_ex_31 (by decide) rfl ?_
  rw [show exX v = hlv (exX v) (exK v - exK v) by rw [Nat.sub_self]; rfl]
  exact A_ex_loop hn h0 h1 (by exact hQ) _ (exK v) rfl (Nat.le_refl _)
set_option maxRecDepth 4000 in
theorem A_ex {l : Launch} {M : ab_M} {Q : ab_O → ab_M → Prop} {v : UInt64} (hn : fN v) (h0 : fz v ≤ 0) (hQ : Q (.inl (some (.double (exD v)))) M) : AW sys l ab_Zt k_BF_ex 0 0 0 [(0, .double (v))] [] M 0 0 Q := by
  refine aw_dload_n d_BF_ex_0 rfl 0 rfl ?_
  refine aw_ldc2d (v := 13857013103465594880) d_BF_ex_1 mw_572 ?_
  refine aw_dcmp d_BF_ex_4 ?_
  refine ad_gt hn fF_m60.n d_BF_ex_5 (tgt := 10) (by decide) (fun c1 => ?_) (fun c1 => ?_)
  · skip
    have h1 : -60 * f1 < fz v := by rw [← fz_m60]; exact c1
    refine aw_dload_n d_BF_ex_10 rfl 0 rfl ?_
    refine aw_d2i d_BF_ex_11 ?_
    refine aw_eqi (ngI (exK0 v)) (ex_k0 hn h0 h1).1 ?_
    refine aw_istore_n (lv' := [(2, .int (ngI (exK0 v))), (0, .double (v))]) d_BF_ex_12 rfl (by decide) rfl ?_
    refine aw_iload_n d_BF_ex_13 rfl 0 rfl ?_
    refine aw_i2d d_BF_ex_14 ?_
    refine aw_dload_n d_BF_ex_15 rfl 1 rfl ?_
    refine aw_dcmp d_BF_ex_16 ?_
    refine ad_le (fF_i _).n hn d_BF_ex_17 (tgt := 23) (by decide) (fun c2 => ?_) (fun c2 => ?_)
    · skip
      rw [show ngI (exK0 v) = ngI (exK v) by simp only [exK]; rw [if_neg (by omega)]]
      exact A_ex_tail hn h0 h1 (by simp only [exD] at hQ; rw [if_neg (by omega)] at hQ; exact hQ)
    · skip
      refine aw_iinc (v := (ngI (exK0 v + 1))) (lv' := [(2, .int (ngI (exK0 v + 1))), (0, .double (v))]) d_BF_ex_20 (j := 0) rfl (ng_dec (exK0 v)) (by decide) rfl ?_
      rw [show ngI (exK0 v + 1) = ngI (exK v) by simp only [exK]; rw [if_pos c2]]
      exact A_ex_tail hn h0 h1 (by simp only [exD] at hQ; rw [if_neg (by omega)] at hQ; exact hQ)
  · skip
    refine aw_dconst0 d_BF_ex_8 ?_
    refine aw_dret d_BF_ex_9 rfl (by decide) (by decide) ?_
    exact q_d (by simp only [exD]; rw [if_pos c1]) hQ
set_option maxRecDepth 4000 in
theorem B_ex_loop {l : Launch} {M : ab_M} {Q : ab_O → ab_M → Prop} {v : UInt64} (hn : fN v) (h0 : fz v ≤ 0) (h1 : -60 * f1 < fz v) (hQ : Q (.inl (some (.double (hlv (exX v) (exK v))))) M) : ∀ (mm : Nat) (j : Nat), exK v - j = mm → (hr : j ≤ exK v) → AW sys l ab_Zt k_MO_ex 0 0 54 [(5, .int (ngI (j))), (3, .double (hlv (exX v) j)), (2, .int (ngI (exK v))), (0, .double (v))] [] M 0 0 Q := by
  intro mm
  induction mm using Nat.strongRecOn with
  | ind mm ih =>
    intro j hk hr
    have hf : fF v := f_fin hn fF_m60 fF_zero (by rw [fz_m60]; omega) (by rw [fz_zero]; exact h0)
    obtain ⟨k1, k2, k3, k4⟩ := ex_k hn h0 h1
    obtain ⟨x1, x2, x3, x4, x5⟩ := ex_x hf h0 h1
    have hx0 : 0 ≤ fz (exX v) := by have := f1_pos; omega
    refine aw_iload d_MO_ex_54 0 rfl ?_
    refine aw_iload_n d_MO_ex_56 rfl 2 rfl ?_
    refine aw_icmp_le (tgt := 72) d_MO_ex_57 (by decide) (fun c1 => ?_) (fun c1 => ?_)
    · skip
      refine aw_dload_n d_MO_ex_72 rfl 1 rfl ?_
      refine aw_dret d_MO_ex_73 rfl (by decide) (by decide) ?_
      have h9 := (ng_le (by omega) (by omega)).mp c1
      exact q_d (by rw [show j = exK v by omega]) hQ
    · skip
      refine aw_dload_n d_MO_ex_60 rfl 1 rfl ?_
      refine aw_ldc2d (v := 4611686018427387904) d_MO_ex_61 mw_774 ?_
      refine aw_ddiv d_MO_ex_64 (f_n64 (f_div_n (hlv_ok x2 hx0 x4 _).1 fF_2 (by rw [fz_2]; have := f1_pos; omega))) ?_
      refine aw_eqd (hlv (exX v) (j + 1)) rfl ?_
      refine aw_dstore_n (lv' := [(3, .double (hlv (exX v) (j + 1))), (5, .int (ngI (j))), (2, .int (ngI (exK v))), (0, .double (v))]) d_MO_ex_65 rfl (by decide) rfl ?_
      refine aw_iinc (v := (ngI (j + 1))) (lv' := [(5, .int (ngI (j + 1))), (3, .double (hlv (exX v) (j + 1))), (2, .int (ngI (exK v))), (0, .double (v))]) d_MO_ex_66 (j := 1) rfl (ng_dec (j)) (by decide) rfl ?_
      refine aw_goto (tgt := 54) d_MO_ex_69 (by decide) ?_
      have h8 : ¬ exK v ≤ j := fun h => c1 ((ng_le (j := j) (k := exK v) (by omega) (by omega)).mpr h)
      exact ih _ (by omega) (j + 1) rfl (by omega)
set_option maxRecDepth 4000 in
theorem B_ex_tail {l : Launch} {M : ab_M} {Q : ab_O → ab_M → Prop} {v : UInt64} (hn : fN v) (h0 : fz v ≤ 0) (h1 : -60 * f1 < fz v) (hQ : Q (.inl (some (.double (hlv (exX v) (exK v))))) M) : AW sys l ab_Zt k_MO_ex 0 0 23 [(2, .int (ngI (exK v))), (0, .double (v))] [] M 0 0 Q := by
  have hf : fF v := f_fin hn fF_m60 fF_zero (by rw [fz_m60]; omega) (by rw [fz_zero]; exact h0)
  obtain ⟨k1, k2, k3, k4⟩ := ex_k hn h0 h1
  obtain ⟨x1, x2, x3, x4, x5⟩ := ex_x hf h0 h1
  have hx0 : 0 ≤ fz (exX v) := by have := f1_pos; omega
  refine aw_dconst1 d_MO_ex_23 ?_
  refine aw_dload_n d_MO_ex_24 rfl 1 rfl ?_
  refine aw_iload_n d_MO_ex_25 rfl 0 rfl ?_
  refine aw_i2d d_MO_ex_26 ?_
  refine aw_dsub d_MO_ex_27 (f_n64 (f_sub_n hf (fF_i _))) ?_
  refine aw_dadd d_MO_ex_28 (f_n64 (f_add_n fF_one x1)) ?_
  refine aw_eqd (exX v) rfl ?_
  refine aw_dstore_n (lv' := [(3, .double (exX v)), (2, .int (ngI (exK v))), (0, .double (v))]) d_MO_ex_29 rfl (by decide) rfl ?_
  refine aw_iconst (v := nI 0) d_MO_ex_30 (by decide) ?_
  refine aw_istore (lv' := [(5, .int (nI (0))), (3, .double (exX v)), (2, .int (ngI (exK v))), (0, .double (v))]) d_MO_ex_31 (by decide) rfl ?_
  refine aw_iload d_MO_ex_33 0 rfl ?_
  refine aw_iload_n d_MO_ex_35 rfl 2 rfl ?_
  refine aw_icmp_ge (tgt := 51) d_MO_ex_36 (by decide) (fun c1 => ?_) (fun c1 => ?_)
  · skip
    refine aw_iconst (v := nI 0) d_MO_ex_51 (by decide) ?_
    refine aw_istore (lv' := [(5, .int (nI (0))), (3, .double (exX v)), (2, .int (ngI (exK v))), (0, .double (v))]) d_MO_ex_52 (by decide) rfl ?_
    rw [show nI 0 = ngI 0 by decide, show exX v = hlv (exX v) 0 from rfl]
    exact B_ex_loop hn h0 h1 hQ _ 0 rfl (by omega)
  · skip
    exact absurd (ng_le0 (by omega)) c1
set_option maxRecDepth 4000 in
theorem B_ex {l : Launch} {M : ab_M} {Q : ab_O → ab_M → Prop} {v : UInt64} (hn : fN v) (h0 : fz v ≤ 0) (hQ : Q (.inl (some (.double (exD v)))) M) : AW sys l ab_Zt k_MO_ex 0 0 0 [(0, .double (v))] [] M 0 0 Q := by
  refine aw_dload_n d_MO_ex_0 rfl 0 rfl ?_
  refine aw_ldc2d (v := 13857013103465594880) d_MO_ex_1 mw_937 ?_
  refine aw_dcmp d_MO_ex_4 ?_
  refine ad_gt hn fF_m60.n d_MO_ex_5 (tgt := 10) (by decide) (fun c1 => ?_) (fun c1 => ?_)
  · skip
    have h1 : -60 * f1 < fz v := by rw [← fz_m60]; exact c1
    refine aw_dload_n d_MO_ex_10 rfl 0 rfl ?_
    refine aw_d2i d_MO_ex_11 ?_
    refine aw_eqi (ngI (exK0 v)) (ex_k0 hn h0 h1).1 ?_
    refine aw_istore_n (lv' := [(2, .int (ngI (exK0 v))), (0, .double (v))]) d_MO_ex_12 rfl (by decide) rfl ?_
    refine aw_iload_n d_MO_ex_13 rfl 0 rfl ?_
    refine aw_i2d d_MO_ex_14 ?_
    refine aw_dload_n d_MO_ex_15 rfl 1 rfl ?_
    refine aw_dcmp d_MO_ex_16 ?_
    refine ad_le (fF_i _).n hn d_MO_ex_17 (tgt := 23) (by decide) (fun c2 => ?_) (fun c2 => ?_)
    · skip
      rw [show ngI (exK0 v) = ngI (exK v) by simp only [exK]; rw [if_neg (by omega)]]
      exact B_ex_tail hn h0 h1 (by simp only [exD] at hQ; rw [if_neg (by omega)] at hQ; exact hQ)
    · skip
      refine aw_iinc (v := (ngI (exK0 v + 1))) (lv' := [(2, .int (ngI (exK0 v + 1))), (0, .double (v))]) d_MO_ex_20 (j := 0) rfl (ng_dec (exK0 v)) (by decide) rfl ?_
      rw [show ngI (exK0 v + 1) = ngI (exK v) by simp only [exK]; rw [if_pos c2]]
      exact B_ex_tail hn h0 h1 (by simp only [exD] at hQ; rw [if_neg (by omega)] at hQ; exact hQ)
  · skip
    refine aw_dconst0 d_MO_ex_8 ?_
    refine aw_dret d_MO_ex_9 rfl (by decide) (by decide) ?_
    exact q_d (by simp only [exD]; rw [if_pos c1]) hQ
