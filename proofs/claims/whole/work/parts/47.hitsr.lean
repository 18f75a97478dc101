/-! HITS of the reference: sets of bits (rows laid by gen/m4.py) -/
def anF (f : Nat → Bool) (a n : Nat) : Bool := an (fun i => decide (a ≤ i) && f i) n
theorem anF_here {f : Nat → Bool} {a n : Nat} (h : a ≤ n) : anF f a (n + 1) = (anF f a n || f n) := by
  show (anF f a n || (decide (a ≤ n) && f n)) = _
  rw [decide_eq_true h, Bool.true_and]
theorem anF_start {f : Nat → Bool} {a n : Nat} (h : n ≤ a) : anF f a n = false := by
  cases e : anF f a n with
  | false => rfl
  | true =>
    obtain ⟨i, h1, h2⟩ := an_iff.mp e
    simp only [Bool.and_eq_true, decide_eq_true_eq] at h2
    omega
theorem anF_NX {D : Dg} (wd : wD D) {w d p c n : Nat} (hp : p < dl D d) (hc : c ≤ 24) (h1 : n ≤ dl D d) (h2 : n ≤ p + c) (h3 : n = dl D d ∨ n = p + c) : anF (fw D d w) p n = decide (NX D w d p < p + c) := by
  have hl := wd.2.1 d
  obtain ⟨s1, s2, s3, s4⟩ := nx_spec (f := fw D d w) (n := dl D d) _ p rfl (by omega)
  by_cases hx : NX D w d p < p + c
  · rw [decide_eq_true hx]
    obtain ⟨q1, q2⟩ := NX_in wd (Nat.le_of_lt hp) (show NX D w d p < 48 by omega)
    rw [q2] at hx q1
    exact an_iff.mpr ⟨nx (fw D d w) (dl D d) p, by omega, by rw [decide_eq_true s1, s4 q1]; rfl⟩
  · rw [decide_eq_false hx]
    cases e : anF (fw D d w) p n with
    | false => rfl
    | true =>
      obtain ⟨i, e1, e2⟩ := an_iff.mp e
      simp only [Bool.and_eq_true, decide_eq_true_eq] at e2
      exfalso
      have : ¬ i < nx (fw D d w) (dl D d) p := fun h => by rw [s3 i e2.1 h] at e2; cases e2.2
      apply hx
      simp only [NX]
      rw [if_pos (by omega)]; omega
theorem bit_and (x p : Nat) : (x / 2 ^ p) &&& 1 = 1 ↔ x.testBit p = true := by
  rw [Nat.and_one_is_mod, Nat.testBit_eq_decide_div_mod_eq, decide_eq_true_eq]
theorem bit_ne {x p : Nat} (h : (x / 2 ^ p) &&& 1 ≠ 1) : x.testBit p = false := by
  cases e : x.testBit p with
  | false => rfl
  | true => exact absurd ((bit_and x p).mpr e) h
theorem bit_lt (x p : Nat) : (x / 2 ^ p) &&& 1 < 2 := by rw [Nat.and_one_is_mod]; omega
theorem trm_at {T : Qg} {t i : Nat} (h : 1 ≤ i) : trm T t (i - 1) = qa T (t + i) := by simp only [trm]; rw [show t + 1 + (i - 1) = t + i by omega]
def anyS (T : Qg) (D : Dg) (t d i : Nat) : Nat := bsn (fun p => an (fun j => fw D d (trm T t j) p) i) (dl D d)
theorem anyS_step (T : Qg) (D : Dg) (t d i : Nat) : anyS T D t d i ||| bsn (fw D d (trm T t i)) (dl D d) = anyS T D t d (i + 1) := by
  simp only [anyS]; rw [bsn_or]; rfl
theorem anyS_bit {T : Qg} {D : Dg} {t d p : Nat} (hp : p < dl D d) : (anyS T D t d (prt T t)).testBit p = anyP T D t d p := by
  simp only [anyS]; rw [bsn_bit, decide_eq_true hp, Bool.true_and]
  exact an_congr _ (fun i _ => (std_in hp).symm)
theorem anyS_lt {T : Qg} {D : Dg} (wd : wD D) (t d i : Nat) : anyS T D t d i < 2 ^ 24 := Nat.lt_of_lt_of_le (bsn_lt _ _) (Nat.pow_le_pow_right (by omega) (wd.2.1 d))
theorem hb_lt {T : Qg} {D : Dg} (wd : wD D) (t d i : Nat) (h : i ≤ dl D d) : bsn (hitB T D t d) i < 2 ^ 24 := Nat.lt_of_lt_of_le (bsn_lt _ _) (Nat.pow_le_pow_right (by omega) (Nat.le_trans h (wd.2.1 d)))

set_option maxRecDepth 4000 in
theorem B_near_in {l : Launch} {M : ab_M} {Q : ab_O → ab_M → Prop} {D : Dg} {T : Qg} (wd : wD D) (dr : iDR D M) (wq : wQ T) (qr : iQR T M) (h0 : op T (qn T) = 0) {t : Nat} (ht : t < qn T) (h2 : 2 ≤ qk T t) (h4 : qk T t ≤ 4) {d p : Nat} (hd : d < 12) (hp : p < dl D d) {i a : Nat} (hi : 2 ≤ i) (hi2 : i ≤ prt T t) : ∀ (k : Nat) (q : Nat), 25 - q = k → (hq : q ≤ dl D d) → (hK : AW sys l ab_Zt k_MO_isNear 1 22 88 [(6, .int (nI (nx (fw D d (qa T (t + i))) (dl D d) q))), (5, .int (nI i)), (4, .int (nI a)), (0, .ref 57), (1, .int (nI t)), (2, .int (nI d)), (3, .int (nI p))] [] M 0 0 Q) → AW sys l ab_Zt k_MO_isNear 1 22 47 [(6, .int (nI (q))), (5, .int (nI (i))), (4, .int (nI (a))), (0, .ref (57)), (1, .int (nI (t))), (2, .int (nI (d))), (3, .int (nI (p)))] [] M 0 0 Q := by
  intro k
  induction k using Nat.strongRecOn with
  | ind k ih =>
    intro q hk hq hK
    have h24 := wq.1
    have hl := wd.2.1 d
    obtain ⟨g1, g2, g3, g4, g5, g6⟩ := wq.2.1 t ht
    have hp4 := prt_le (wq.2.1 t ht)
    have hx := trm_lt wq h0 ht h2 h4 (i := i - 1) (by omega)
    have hx1 : qa T (t + i) < 16 := by have := hx.1; simp only [trm] at this; rw [show t + 1 + (i - 1) = t + i by omega] at this; exact this
    have hww := wd.2.2.2.1 d q
    refine aw_iload d_MO_isNear_47 0 rfl ?_
    refine aw_aload_n d_MO_isNear_49 rfl 3 rfl ?_
    refine aw_get (ic := 57) (ci := 6) (k := 2) d_MO_isNear_50 rfl rfl (by decide) rfl mw_777 rfl ?_
    refine aw_iload_n d_MO_isNear_53 rfl 5 rfl ?_
    refine aw_ialdN d_MO_isNear_54 rfl (by decide) (by omega) ?_
    refine aw_eqi (nI (dl D d)) (dr.2.1 _ (by omega)) ?_
    refine aw_icmp_geN (tgt := 88) d_MO_isNear_55 (by decide) (by omega) (by omega) (fun c1 => ?_) (fun c1 => ?_)
    · skip
      rw [nx_end (by omega)] at hK; exact hK
    · skip
      refine aw_aload_n d_MO_isNear_58 rfl 3 rfl ?_
      refine aw_get (ic := 57) (ci := 6) (k := 1) d_MO_isNear_59 rfl rfl (by decide) rfl mw_776 rfl ?_
      refine aw_bipush (v := nI 24) d_MO_isNear_62 (by decide) ?_
      refine aw_iload_n d_MO_isNear_64 rfl 5 rfl ?_
      refine aw_imulN d_MO_isNear_65 ?_
      refine aw_iload d_MO_isNear_66 0 rfl ?_
      refine aw_iaddN d_MO_isNear_68 ?_
      refine aw_ialdN d_MO_isNear_69 rfl (by decide) (by omega) ?_
      refine aw_eqi (nI (dw D d q)) (dr.2.2.1 _ _ (by omega) (by omega)) ?_
      refine aw_aload_n d_MO_isNear_70 rfl 3 rfl ?_
      refine aw_get (ic := 57) (ci := 6) (k := 6) d_MO_isNear_71 rfl rfl (by decide) rfl mw_781 rfl ?_
      refine aw_iload_n d_MO_isNear_74 rfl 4 rfl ?_
      refine aw_iload d_MO_isNear_75 1 rfl ?_
      refine aw_iaddN d_MO_isNear_77 ?_
      refine aw_ialdN d_MO_isNear_78 rfl (by decide) (by omega) ?_
      refine aw_eqi (nI (qa T (t + i))) (qr.2.2.1 _ (by omega)) ?_
      refine aw_icmp_eqN (tgt := 88) d_MO_isNear_79 (by decide) (by omega) (by omega) (fun c2 => ?_) (fun c2 => ?_)
      · skip
        rw [nx_hit (by omega) (fw_t c2)] at hK; exact hK
      · skip
        refine aw_iinc (v := (nI (q + 1))) (lv' := [(6, .int (nI (q + 1))), (5, .int (nI (i))), (4, .int (nI (a))), (0, .ref (57)), (1, .int (nI (t))), (2, .int (nI (d))), (3, .int (nI (p)))]) d_MO_isNear_82 (j := 0) rfl (nI_add (q) 1) (by decide) rfl ?_
        refine aw_goto (tgt := 47) d_MO_isNear_85 (by decide) ?_
        exact ih _ (by omega) (q + 1) rfl (by omega) (by rw [nx_go (by omega) (fw_f c2)] at hK; exact hK)
set_option maxRecDepth 4000 in
theorem B_near_loop {l : Launch} {M : ab_M} {Q : ab_O → ab_M → Prop} {D : Dg} {T : Qg} (wd : wD D) (dr : iDR D M) (wq : wQ T) (qr : iQR T M) (h0 : op T (qn T) = 0) {t : Nat} (ht : t < qn T) (h2 : 2 ≤ qk T t) (h4 : qk T t ≤ 4) (h3 : qk T t = 2 ∨ qk T t = 3) {d p : Nat} (hd : d < 12) (hp : p < dl D d) (hQ : Q (.inl (some (.int (nI (bN (wayB T D t d p)))))) M) : ∀ (k : Nat) (i : Nat) (a : Nat), 6 - i = k → (hi : 2 ≤ i) → (hi2 : i ≤ prt T t + 1) → (hw : way T D t d p (i - 2) = some a) → AW sys l ab_Zt k_MO_isNear 1 22 31 [(5, .int (nI (i))), (4, .int (nI (a))), (0, .ref (57)), (1, .int (nI (t))), (2, .int (nI (d))), (3, .int (nI (p)))] [] M 0 0 Q := by
  intro k
  induction k using Nat.strongRecOn with
  | ind k ih =>
    intro i a hk hi hi2 hw
    have h24 := wq.1
    have hl := wd.2.1 d
    obtain ⟨g1, g2, g3, g4, g5, g6⟩ := wq.2.1 t ht
    have hp4 := prt_le (wq.2.1 t ht)
    have hq := g3 h3
    have ha := way_lt wd hq.2 _ _ hw
    refine aw_iload d_MO_isNear_31 0 rfl ?_
    refine aw_aload_n d_MO_isNear_33 rfl 2 rfl ?_
    refine aw_iload_n d_MO_isNear_34 rfl 3 rfl ?_
    refine aw_callV (K' := k_MO_partsOf) (As := [.int (nI (t))]) (rest := [.int (nI (i))]) (b := 57) d_MO_isNear_35 rfl rfl rfl cs_MO_71 rfl (Nat.le_of_ble_eq_true rfl) (Nat.le_of_ble_eq_true rfl) (by decide) (by decide) (d' := 0) (w' := 0) (by decide) (by decide) ?_
    show AW _ _ _ _ _ _ _ [(0, .ref (57)), (1, .int (nI (t)))] _ _ _ _ _
    refine B_partsOf wq qr (by omega) ?_
    refine ab_go1 ?_
    refine aw_icmp_gtN (tgt := 125) d_MO_isNear_38 (by decide) (by omega) (by omega) (fun c1 => ?_) (fun c1 => ?_)
    · skip
      refine aw_iconst (v := nI 1) d_MO_isNear_125 (by decide) ?_
      refine aw_zret (Or.inr rfl) d_MO_isNear_126 rfl (by decide) (by decide) ?_
      exact q_b (c := true) (by simp only [wayB]; rw [show prt T t - 1 = i - 2 by omega, hw]; rfl) rfl hQ
    · skip
      refine aw_iload d_MO_isNear_41 1 rfl ?_
      refine aw_iconst (v := nI 1) d_MO_isNear_43 (by decide) ?_
      refine aw_iaddN d_MO_isNear_44 ?_
      refine aw_istore (lv' := [(6, .int (nI (a + 1))), (5, .int (nI (i))), (4, .int (nI (a))), (0, .ref (57)), (1, .int (nI (t))), (2, .int (nI (d))), (3, .int (nI (p)))]) d_MO_isNear_45 (by decide) rfl ?_
      refine B_near_in wd dr wq qr h0 ht h2 h4 hd hp hi (by omega) _ (a + 1) rfl (by omega) ?_
      have hs9 := nx_spec (f := fw D d (qa T (t + i))) (n := dl D d) _ (a + 1) rfl (by omega)
      generalize hy : nx (fw D d (qa T (t + i))) (dl D d) (a + 1) = y at hs9 ⊢
      refine aw_iload d_MO_isNear_88 0 rfl ?_
      refine aw_aload_n d_MO_isNear_90 rfl 3 rfl ?_
      refine aw_get (ic := 57) (ci := 6) (k := 2) d_MO_isNear_91 rfl rfl (by decide) rfl mw_777 rfl ?_
      refine aw_iload_n d_MO_isNear_94 rfl 5 rfl ?_
      refine aw_ialdN d_MO_isNear_95 rfl (by decide) (by omega) ?_
      refine aw_eqi (nI (dl D d)) (dr.2.1 _ (by omega)) ?_
      refine aw_icmp_eqN (tgt := 113) d_MO_isNear_96 (by decide) (by omega) (by omega) (fun c2 => ?_) (fun c2 => ?_)
      · skip
        refine aw_iconst (v := nI 0) d_MO_isNear_113 (by decide) ?_
        refine aw_zret (Or.inl rfl) d_MO_isNear_114 rfl (by decide) (by decide) ?_
        have hNX : NX D (trm T t (i - 1)) d (a + 1) = if y < dl D d then y else 48 := by rw [trm_at (by omega)]; simp only [NX]; rw [hy]
        exact q_b (c := false) (wayB_f (way_none hw (by rw [show i - 2 + 1 = i - 1 by omega, hNX]; split <;> omega)) (by omega)) rfl hQ
      · skip
        refine aw_iload d_MO_isNear_99 0 rfl ?_
        refine aw_iload d_MO_isNear_101 2 rfl ?_
        refine aw_isubN d_MO_isNear_103 (by omega) ?_
        refine aw_aload_n d_MO_isNear_104 rfl 3 rfl ?_
        refine aw_get (ic := 57) (ci := 6) (k := 6) d_MO_isNear_105 rfl rfl (by decide) rfl mw_781 rfl ?_
        refine aw_iload_n d_MO_isNear_108 rfl 4 rfl ?_
        refine aw_ialdN d_MO_isNear_109 rfl (by decide) (by omega) ?_
        refine aw_eqi (nI (qa T t)) (qr.2.2.1 _ (by omega)) ?_
        refine aw_icmp_leN (tgt := 115) d_MO_isNear_110 (by decide) (by omega) (by omega) (fun c3 => ?_) (fun c3 => ?_)
        · skip
          refine aw_iload d_MO_isNear_115 0 rfl ?_
          refine aw_istore (lv' := [(4, .int (nI (y))), (6, .int (nI (y))), (5, .int (nI (i))), (0, .ref (57)), (1, .int (nI (t))), (2, .int (nI (d))), (3, .int (nI (p)))]) d_MO_isNear_117 (by decide) rfl ?_
          refine aw_iinc (v := (nI (i + 1))) (lv' := [(5, .int (nI (i + 1))), (4, .int (nI (y))), (6, .int (nI (y))), (0, .ref (57)), (1, .int (nI (t))), (2, .int (nI (d))), (3, .int (nI (p)))]) d_MO_isNear_119 (j := 2) rfl (nI_add (i) 1) (by decide) rfl ?_
          refine aw_goto (tgt := 31) d_MO_isNear_122 (by decide) ?_
          refine aw_pick [0, 1, 3, 4, 5, 6] rfl ?_
          have hNX : NX D (trm T t (i - 1)) d (a + 1) = if y < dl D d then y else 48 := by rw [trm_at (by omega)]; simp only [NX]; rw [hy]
          exact ih _ (by omega) (i + 1) y rfl (by omega) (by omega) (by have := way_step hw (by rw [show i - 2 + 1 = i - 1 by omega, hNX]; split <;> omega); rw [show i - 2 + 1 = i - 1 by omega, hNX, if_pos (by omega)] at this; rw [show i + 1 - 2 = i - 1 by omega]; exact this)
        · skip
          refine aw_iconst (v := nI 0) d_MO_isNear_113 (by decide) ?_
          refine aw_zret (Or.inl rfl) d_MO_isNear_114 rfl (by decide) (by decide) ?_
          have hNX : NX D (trm T t (i - 1)) d (a + 1) = if y < dl D d then y else 48 := by rw [trm_at (by omega)]; simp only [NX]; rw [hy]
          exact q_b (c := false) (wayB_f (way_none hw (by rw [show i - 2 + 1 = i - 1 by omega, hNX]; split <;> omega)) (by omega)) rfl hQ
set_option maxRecDepth 4000 in
theorem B_isNear {l : Launch} {M : ab_M} {Q : ab_O → ab_M → Prop} {D : Dg} {T : Qg} (wd : wD D) (dr : iDR D M) (wq : wQ T) (qr : iQR T M) (h0 : op T (qn T) = 0) {t : Nat} (ht : t < qn T) (h2 : 2 ≤ qk T t) (h4 : qk T t ≤ 4) (h3 : qk T t = 2 ∨ qk T t = 3) {d p : Nat} (hd : d < 12) (hp : p < dl D d) (hQ : Q (.inl (some (.int (nI (bN (wayB T D t d p)))))) M) : AW sys l ab_Zt k_MO_isNear 1 22 0 [(0, .ref (57)), (1, .int (nI (t))), (2, .int (nI (d))), (3, .int (nI (p)))] [] M 0 0 Q := by
  have h24 := wq.1
  have hl := wd.2.1 d
  obtain ⟨g1, g2, g3, g4, g5, g6⟩ := wq.2.1 t ht
  have hp4 := prt_le (wq.2.1 t ht)
  have h1p : 1 ≤ prt T t := by rw [prt_win h2 h4]; exact (g5 h2 h4).2.1
  have hx := trm_lt wq h0 ht h2 h4 (i := 0) (by omega)
  have hx1 : qa T (t + 1) < 16 := hx.1
  have hww := wd.2.2.2.1 d p
  refine aw_iload_n d_MO_isNear_0 rfl 3 rfl ?_
  refine aw_istore (lv' := [(4, .int (nI (p))), (0, .ref (57)), (1, .int (nI (t))), (2, .int (nI (d))), (3, .int (nI (p)))]) d_MO_isNear_1 (by decide) rfl ?_
  refine aw_aload_n d_MO_isNear_3 rfl 1 rfl ?_
  refine aw_get (ic := 57) (ci := 6) (k := 1) d_MO_isNear_4 rfl rfl (by decide) rfl mw_776 rfl ?_
  refine aw_bipush (v := nI 24) d_MO_isNear_7 (by decide) ?_
  refine aw_iload_n d_MO_isNear_9 rfl 3 rfl ?_
  refine aw_imulN d_MO_isNear_10 ?_
  refine aw_iload d_MO_isNear_11 0 rfl ?_
  refine aw_iaddN d_MO_isNear_13 ?_
  refine aw_ialdN d_MO_isNear_14 rfl (by decide) (by omega) ?_
  refine aw_eqi (nI (dw D d p)) (dr.2.2.1 _ _ (by omega) (by omega)) ?_
  refine aw_aload_n d_MO_isNear_15 rfl 1 rfl ?_
  refine aw_get (ic := 57) (ci := 6) (k := 6) d_MO_isNear_16 rfl rfl (by decide) rfl mw_781 rfl ?_
  refine aw_iload_n d_MO_isNear_19 rfl 2 rfl ?_
  refine aw_iconst (v := nI 1) d_MO_isNear_20 (by decide) ?_
  refine aw_iaddN d_MO_isNear_21 ?_
  refine aw_ialdN d_MO_isNear_22 rfl (by decide) (by omega) ?_
  refine aw_eqi (nI (qa T (t + 1))) (qr.2.2.1 _ (by omega)) ?_
  refine aw_icmp_eqN (tgt := 28) d_MO_isNear_23 (by decide) (by omega) (by omega) (fun c1 => ?_) (fun c1 => ?_)
  · skip
    refine aw_iconst (v := nI 2) d_MO_isNear_28 (by decide) ?_
    refine aw_istore (lv' := [(5, .int (nI (2))), (4, .int (nI (p))), (0, .ref (57)), (1, .int (nI (t))), (2, .int (nI (d))), (3, .int (nI (p)))]) d_MO_isNear_29 (by decide) rfl ?_
    exact B_near_loop wd dr wq qr h0 ht h2 h4 h3 hd hp hQ _ 2 p rfl (by omega) (by omega) (by show way T D t d p 0 = some p; simp only [way]; rw [std_in hp, fw_t (by exact c1)]; rfl)
  · skip
    refine aw_iconst (v := nI 0) d_MO_isNear_26 (by decide) ?_
    refine aw_zret (Or.inl rfl) d_MO_isNear_27 rfl (by decide) (by decide) ?_
    exact q_b (c := false) (wayB_f (i := 0) (by simp only [way]; rw [std_in hp, show fw D d (trm T t 0) p = false from fw_f c1]; rfl) (by omega)) rfl hQ
set_option maxRecDepth 4000 in
theorem B_arnd_in {l : Launch} {M : ab_M} {Q : ab_O → ab_M → Prop} {D : Dg} {T : Qg} (wd : wD D) (dr : iDR D M) (wq : wQ T) (qr : iQR T M) (h0 : op T (qn T) = 0) {t : Nat} (ht : t < qn T) (h2 : 2 ≤ qk T t) (h4 : qk T t ≤ 4) (h3 : qk T t = 2 ∨ qk T t = 3) {d p : Nat} (hd : d < 12) (hp : p < dl D d) {i : Nat} (hi : 1 ≤ i) (hi2 : i ≤ prt T t) (hK : ∀ q, anF (fw D d (qa T (t + i))) p q = decide (NX D (qa T (t + i)) d p < p + qa T t) → AW sys l ab_Zt k_MO_isAround 1 22 76 [(6, .int (nI q)), (5, .int (nI (bN (anF (fw D d (qa T (t + i))) p q)))), (4, .int (nI i)), (0, .ref 57), (1, .int (nI t)), (2, .int (nI d)), (3, .int (nI p))] [] M 0 0 Q) : ∀ (k : Nat) (q : Nat), 25 - q = k → (hq : p ≤ q) → (hq1 : q ≤ dl D d) → (hq2 : q ≤ p + qa T t) → AW sys l ab_Zt k_MO_isAround 1 22 19 [(6, .int (nI (q))), (5, .int (nI (bN (anF (fw D d (qa T (t + i))) p q)))), (4, .int (nI (i))), (0, .ref (57)), (1, .int (nI (t))), (2, .int (nI (d))), (3, .int (nI (p)))] [] M 0 0 Q := by
  intro k
  induction k using Nat.strongRecOn with
  | ind k ih =>
    intro q hk hq hq1 hq2
    have h24 := wq.1
    have hl := wd.2.1 d
    obtain ⟨g1, g2, g3, g4, g5, g6⟩ := wq.2.1 t ht
    have hp4 := prt_le (wq.2.1 t ht)
    have hq3 := g3 h3
    have hx := trm_lt wq h0 ht h2 h4 (i := i - 1) (by omega)
    have hx1 : qa T (t + i) < 16 := by have := hx.1; simp only [trm] at this; rw [show t + 1 + (i - 1) = t + i by omega] at this; exact this
    have hww := wd.2.2.2.1 d q
    refine aw_iload d_MO_isAround_19 0 rfl ?_
    refine aw_aload_n d_MO_isAround_21 rfl 3 rfl ?_
    refine aw_get (ic := 57) (ci := 6) (k := 2) d_MO_isAround_22 rfl rfl (by decide) rfl mw_777 rfl ?_
    refine aw_iload_n d_MO_isAround_25 rfl 5 rfl ?_
    refine aw_ialdN d_MO_isAround_26 rfl (by decide) (by omega) ?_
    refine aw_eqi (nI (dl D d)) (dr.2.1 _ (by omega)) ?_
    refine aw_icmp_geN (tgt := 76) d_MO_isAround_27 (by decide) (by omega) (by omega) (fun c1 => ?_) (fun c1 => ?_)
    · skip
      exact hK q (anF_NX wd hp hq3.2 (by omega) (by omega) (by omega))
    · skip
      refine aw_iload d_MO_isAround_30 0 rfl ?_
      refine aw_iload_n d_MO_isAround_32 rfl 6 rfl ?_
      refine aw_aload_n d_MO_isAround_33 rfl 3 rfl ?_
      refine aw_get (ic := 57) (ci := 6) (k := 6) d_MO_isAround_34 rfl rfl (by decide) rfl mw_781 rfl ?_
      refine aw_iload_n d_MO_isAround_37 rfl 4 rfl ?_
      refine aw_ialdN d_MO_isAround_38 rfl (by decide) (by omega) ?_
      refine aw_eqi (nI (qa T t)) (qr.2.2.1 _ (by omega)) ?_
      refine aw_iaddN d_MO_isAround_39 ?_
      refine aw_icmp_geN (tgt := 76) d_MO_isAround_40 (by decide) (by omega) (by omega) (fun c2 => ?_) (fun c2 => ?_)
      · skip
        exact hK q (anF_NX wd hp hq3.2 (by omega) (by omega) (by omega))
      · skip
        refine aw_aload_n d_MO_isAround_43 rfl 3 rfl ?_
        refine aw_get (ic := 57) (ci := 6) (k := 1) d_MO_isAround_44 rfl rfl (by decide) rfl mw_776 rfl ?_
        refine aw_bipush (v := nI 24) d_MO_isAround_47 (by decide) ?_
        refine aw_iload_n d_MO_isAround_49 rfl 5 rfl ?_
        refine aw_imulN d_MO_isAround_50 ?_
        refine aw_iload d_MO_isAround_51 0 rfl ?_
        refine aw_iaddN d_MO_isAround_53 ?_
        refine aw_ialdN d_MO_isAround_54 rfl (by decide) (by omega) ?_
        refine aw_eqi (nI (dw D d q)) (dr.2.2.1 _ _ (by omega) (by omega)) ?_
        refine aw_aload_n d_MO_isAround_55 rfl 3 rfl ?_
        refine aw_get (ic := 57) (ci := 6) (k := 6) d_MO_isAround_56 rfl rfl (by decide) rfl mw_781 rfl ?_
        refine aw_iload_n d_MO_isAround_59 rfl 4 rfl ?_
        refine aw_iload d_MO_isAround_60 2 rfl ?_
        refine aw_iaddN d_MO_isAround_62 ?_
        refine aw_ialdN d_MO_isAround_63 rfl (by decide) (by omega) ?_
        refine aw_eqi (nI (qa T (t + i))) (qr.2.2.1 _ (by omega)) ?_
        refine aw_icmp_neN (tgt := 70) d_MO_isAround_64 (by decide) (by omega) (by omega) (fun c3 => ?_) (fun c3 => ?_)
        · skip
          refine aw_iinc (v := (nI (q + 1))) (lv' := [(6, .int (nI (q + 1))), (5, .int (nI (bN (anF (fw D d (qa T (t + i))) p q)))), (4, .int (nI (i))), (0, .ref (57)), (1, .int (nI (t))), (2, .int (nI (d))), (3, .int (nI (p)))]) d_MO_isAround_70 (j := 0) rfl (nI_add (q) 1) (by decide) rfl ?_
          refine aw_goto (tgt := 19) d_MO_isAround_73 (by decide) ?_
          rw [show nI (bN (anF (fw D d (qa T (t + i))) p q)) = nI (bN (anF (fw D d (qa T (t + i))) p (q + 1))) by rw [anF_here hq, fw_f c3, Bool.or_false]]
          exact ih _ (by omega) (q + 1) rfl (by omega) (by omega) (by omega)
        · skip
          refine aw_iconst (v := nI 1) d_MO_isAround_67 (by decide) ?_
          refine aw_istore (lv' := [(5, .int (nI (1))), (6, .int (nI (q))), (4, .int (nI (i))), (0, .ref (57)), (1, .int (nI (t))), (2, .int (nI (d))), (3, .int (nI (p)))]) d_MO_isAround_68 (by decide) rfl ?_
          refine aw_iinc (v := (nI (q + 1))) (lv' := [(6, .int (nI (q + 1))), (5, .int (nI (1))), (4, .int (nI (i))), (0, .ref (57)), (1, .int (nI (t))), (2, .int (nI (d))), (3, .int (nI (p)))]) d_MO_isAround_70 (j := 1) rfl (nI_add (q) 1) (by decide) rfl ?_
          refine aw_goto (tgt := 19) d_MO_isAround_73 (by decide) ?_
          rw [show nI 1 = nI (bN (anF (fw D d (qa T (t + i))) p (q + 1))) by rw [anF_here hq, fw_t c3]; cases anF (fw D d (qa T (t + i))) p q <;> rfl]
          exact ih _ (by omega) (q + 1) rfl (by omega) (by omega) (by omega)
set_option maxRecDepth 4000 in
theorem B_arnd_loop {l : Launch} {M : ab_M} {Q : ab_O → ab_M → Prop} {D : Dg} {T : Qg} (wd : wD D) (dr : iDR D M) (wq : wQ T) (qr : iQR T M) (h0 : op T (qn T) = 0) {t : Nat} (ht : t < qn T) (h2 : 2 ≤ qk T t) (h4 : qk T t ≤ 4) (h3 : qk T t = 2 ∨ qk T t = 3) {d p : Nat} (hd : d < 12) (hp : p < dl D d) (hQ : Q (.inl (some (.int (nI (bN (arnd T D t d p)))))) M) : ∀ (k : Nat) (i : Nat), 6 - i = k → (hi : 1 ≤ i) → (hi2 : i ≤ prt T t + 1) → (hf : al (fun i => decide (NX D (qa T (t + 1 + i)) d p < p + qa T t)) (i - 1) = true) → AW sys l ab_Zt k_MO_isAround 1 22 3 [(4, .int (nI (i))), (0, .ref (57)), (1, .int (nI (t))), (2, .int (nI (d))), (3, .int (nI (p)))] [] M 0 0 Q := by
  intro k
  induction k using Nat.strongRecOn with
  | ind k ih =>
    intro i hk hi hi2 hf
    have h24 := wq.1
    have hl := wd.2.1 d
    obtain ⟨g1, g2, g3, g4, g5, g6⟩ := wq.2.1 t ht
    have hp4 := prt_le (wq.2.1 t ht)
    refine aw_iload d_MO_isAround_3 0 rfl ?_
    refine aw_aload_n d_MO_isAround_5 rfl 1 rfl ?_
    refine aw_iload_n d_MO_isAround_6 rfl 2 rfl ?_
    refine aw_callV (K' := k_MO_partsOf) (As := [.int (nI (t))]) (rest := [.int (nI (i))]) (b := 57) d_MO_isAround_7 rfl rfl rfl cs_MO_71 rfl (Nat.le_of_ble_eq_true rfl) (Nat.le_of_ble_eq_true rfl) (by decide) (by decide) (d' := 0) (w' := 0) (by decide) (by decide) ?_
    show AW _ _ _ _ _ _ _ [(0, .ref (57)), (1, .int (nI (t)))] _ _ _ _ _
    refine B_partsOf wq qr (by omega) ?_
    refine ab_go1 ?_
    refine aw_icmp_gtN (tgt := 89) d_MO_isAround_10 (by decide) (by omega) (by omega) (fun c1 => ?_) (fun c1 => ?_)
    · skip
      refine aw_iconst (v := nI 1) d_MO_isAround_89 (by decide) ?_
      refine aw_zret (Or.inr rfl) d_MO_isAround_90 rfl (by decide) (by decide) ?_
      exact q_b (c := true) (by rw [show i - 1 = prt T t by omega] at hf; exact hf) rfl hQ
    · skip
      refine aw_iconst (v := nI 0) d_MO_isAround_13 (by decide) ?_
      refine aw_istore (lv' := [(5, .int (nI (0))), (4, .int (nI (i))), (0, .ref (57)), (1, .int (nI (t))), (2, .int (nI (d))), (3, .int (nI (p)))]) d_MO_isAround_14 (by decide) rfl ?_
      refine aw_iload_n d_MO_isAround_16 rfl 5 rfl ?_
      refine aw_istore (lv' := [(6, .int (nI (p))), (5, .int (nI (0))), (4, .int (nI (i))), (0, .ref (57)), (1, .int (nI (t))), (2, .int (nI (d))), (3, .int (nI (p)))]) d_MO_isAround_17 (by decide) rfl ?_
      rw [show nI 0 = nI (bN (anF (fw D d (qa T (t + i))) p p)) by rw [anF_start (Nat.le_refl _)]; rfl]
      refine B_arnd_in wd dr wq qr h0 ht h2 h4 h3 hd hp hi (by omega) (fun q hy => ?_) _ p rfl (by omega) (by omega) (by omega)
      rw [hy]
      refine aw_iload d_MO_isAround_76 1 rfl ?_
      refine aw_if_neB (tgt := 83) d_MO_isAround_78 (by decide) (fun c2 => ?_) (fun c2 => ?_)
      · skip
        refine aw_iinc (v := (nI (i + 1))) (lv' := [(4, .int (nI (i + 1))), (6, .int (nI (q))), (5, .int (nI (bN (decide (NX D (qa T (t + i)) d p < p + qa T t))))), (0, .ref (57)), (1, .int (nI (t))), (2, .int (nI (d))), (3, .int (nI (p)))]) d_MO_isAround_83 (j := 2) rfl (nI_add (i) 1) (by decide) rfl ?_
        refine aw_goto (tgt := 3) d_MO_isAround_86 (by decide) ?_
        refine aw_pick [0, 3, 4, 5, 6] rfl ?_
        exact ih _ (by omega) (i + 1) rfl (by omega) (by omega) (by rw [show i + 1 - 1 = i - 1 + 1 by omega]; simp only [al, trm]; rw [hf, show t + 1 + (i - 1) = t + i by omega, c2]; rfl)
      · skip
        refine aw_iconst (v := nI 0) d_MO_isAround_81 (by decide) ?_
        refine aw_zret (Or.inl rfl) d_MO_isAround_82 rfl (by decide) (by decide) ?_
        exact q_b (c := false) (al_false (i := i - 1) (by omega) (by show decide (NX D (trm T t (i - 1)) d p < p + qa T t) = false; rw [trm_at hi]; exact c2)) rfl hQ
set_option maxRecDepth 4000 in
theorem B_isAround {l : Launch} {M : ab_M} {Q : ab_O → ab_M → Prop} {D : Dg} {T : Qg} (wd : wD D) (dr : iDR D M) (wq : wQ T) (qr : iQR T M) (h0 : op T (qn T) = 0) {t : Nat} (ht : t < qn T) (h2 : 2 ≤ qk T t) (h4 : qk T t ≤ 4) (h3 : qk T t = 2 ∨ qk T t = 3) {d p : Nat} (hd : d < 12) (hp : p < dl D d) (hQ : Q (.inl (some (.int (nI (bN (arnd T D t d p)))))) M) : AW sys l ab_Zt k_MO_isAround 1 22 0 [(0, .ref (57)), (1, .int (nI (t))), (2, .int (nI (d))), (3, .int (nI (p)))] [] M 0 0 Q := by
  refine aw_iconst (v := nI 1) d_MO_isAround_0 (by decide) ?_
  refine aw_istore (lv' := [(4, .int (nI (1))), (0, .ref (57)), (1, .int (nI (t))), (2, .int (nI (d))), (3, .int (nI (p)))]) d_MO_isAround_1 (by decide) rfl ?_
  exact B_arnd_loop wd dr wq qr h0 ht h2 h4 h3 hd hp hQ _ 1 rfl (by omega) (by omega) rfl
set_option maxRecDepth 4000 in
theorem B_hits_l2 {l : Launch} {M : ab_M} {Q : ab_O → ab_M → Prop} {D : Dg} {T : Qg} (wd : wD D) (dr : iDR D M) (wq : wQ T) (qr : iQR T M) (h0 : op T (qn T) = 0) {t : Nat} (ht : t < qn T) (h2 : 2 ≤ qk T t) (h4 : qk T t ≤ 4) (h3 : qk T t = 2 ∨ qk T t = 3) {d : Nat} (hdn : d < dn D) (hQ : Q (.inl (some (.int (nI (bsn (hitB T D t d) (dl D d)))))) M) : ∀ (k : Nat) (p : Nat), 24 - p = k → (hp : p ≤ dl D d) → AW sys l ab_Zt k_MO_hitsOf 2 48 106 [(6, .int (nI (p))), (5, .int (nI (bsn (hitB T D t d) p))), (4, .int (nI (anyS T D t d (prt T t)))), (3, .int (nI (qk T t))), (0, .ref (57)), (1, .int (nI (t))), (2, .int (nI (d)))] [] M 0 0 Q := by
  intro k
  induction k using Nat.strongRecOn with
  | ind k ih =>
    intro p hk hp
    have h12 := wd.1
    have h24 := wq.1
    have hl := wd.2.1 d
    obtain ⟨g1, g2, g3, g4, g5, g6⟩ := wq.2.1 t ht
    have hp4 := prt_le (wq.2.1 t ht)
    refine aw_iload d_MO_hitsOf_106 0 rfl ?_
    refine aw_aload_n d_MO_hitsOf_108 rfl 4 rfl ?_
    refine aw_get (ic := 57) (ci := 6) (k := 2) d_MO_hitsOf_109 rfl rfl (by decide) rfl mw_777 rfl ?_
    refine aw_iload_n d_MO_hitsOf_112 rfl 6 rfl ?_
    refine aw_ialdN d_MO_hitsOf_113 rfl (by decide) (by omega) ?_
    refine aw_eqi (nI (dl D d)) (dr.2.1 _ (by omega)) ?_
    refine aw_icmp_geN (tgt := 173) d_MO_hitsOf_114 (by decide) (by omega) (by omega) (fun c1 => ?_) (fun c1 => ?_)
    · skip
      refine aw_iload d_MO_hitsOf_173 1 rfl ?_
      refine aw_iret d_MO_hitsOf_175 rfl (by decide) (by decide) ?_
      exact q_n (by rw [show p = dl D d by omega]) hQ
    · skip
      refine aw_iload_n d_MO_hitsOf_117 rfl 3 rfl ?_
      refine aw_iconst (v := nI 2) d_MO_hitsOf_118 (by decide) ?_
      refine aw_icmp_neN (tgt := 136) d_MO_hitsOf_119 (by decide) (by omega) (by omega) (fun c2 => ?_) (fun c2 => ?_)
      · skip
        refine aw_iload d_MO_hitsOf_136 2 rfl ?_
        refine aw_iload d_MO_hitsOf_138 0 rfl ?_
        refine aw_ishrN d_MO_hitsOf_140 (by omega) (by have := anyS_lt (T := T) wd t d (prt T t); omega) ?_
        refine aw_iconst (v := nI 1) d_MO_hitsOf_141 (by decide) ?_
        refine aw_iandN d_MO_hitsOf_142 ?_
        refine aw_iconst (v := nI 1) d_MO_hitsOf_143 (by decide) ?_
        refine aw_icmp_neN (tgt := 167) d_MO_hitsOf_144 (by decide) (by have := bit_lt (anyS T D t d (prt T t)) p; omega) (by omega) (fun c3 => ?_) (fun c3 => ?_)
        · skip
          refine aw_iinc (v := (nI (p + 1))) (lv' := [(6, .int (nI (p + 1))), (5, .int (nI (bsn (hitB T D t d) p))), (4, .int (nI (anyS T D t d (prt T t)))), (3, .int (nI (qk T t))), (0, .ref (57)), (1, .int (nI (t))), (2, .int (nI (d)))]) d_MO_hitsOf_167 (j := 0) rfl (nI_add (p) 1) (by decide) rfl ?_
          refine aw_goto (tgt := 106) d_MO_hitsOf_170 (by decide) ?_
          rw [show nI (bsn (hitB T D t d) p) = nI (bsn (hitB T D t d) (p + 1)) by simp only [bsn]; rw [hit3 (by omega), ← anyS_bit (by omega), bit_ne c3]; simp]
          exact ih _ (by omega) (p + 1) rfl (by omega)
        · skip
          refine aw_aload_n d_MO_hitsOf_147 rfl 4 rfl ?_
          refine aw_iload_n d_MO_hitsOf_148 rfl 5 rfl ?_
          refine aw_iload_n d_MO_hitsOf_149 rfl 6 rfl ?_
          refine aw_iload d_MO_hitsOf_150 0 rfl ?_
          refine aw_callV (K' := k_MO_isAround) (As := [.int (nI (t)), .int (nI (d)), .int (nI (p))]) (rest := []) (b := 57) d_MO_hitsOf_152 rfl rfl rfl cs_MO_103 rfl (Nat.le_of_ble_eq_true rfl) (Nat.le_of_ble_eq_true rfl) (by decide) (by decide) (d' := 1) (w' := 22) (by decide) (by decide) ?_
          show AW _ _ _ _ _ _ _ [(0, .ref (57)), (1, .int (nI (t))), (2, .int (nI (d))), (3, .int (nI (p)))] _ _ _ _ _
          refine B_isAround wd dr wq qr h0 ht (by omega) (by omega) (by omega) (by omega) (by omega) ?_
          refine ab_go1 ?_
          refine aw_if_eqB (tgt := 167) d_MO_hitsOf_155 (by decide) (fun c4 => ?_) (fun c4 => ?_)
          · skip
            refine aw_iinc (v := (nI (p + 1))) (lv' := [(6, .int (nI (p + 1))), (5, .int (nI (bsn (hitB T D t d) p))), (4, .int (nI (anyS T D t d (prt T t)))), (3, .int (nI (qk T t))), (0, .ref (57)), (1, .int (nI (t))), (2, .int (nI (d)))]) d_MO_hitsOf_167 (j := 0) rfl (nI_add (p) 1) (by decide) rfl ?_
            refine aw_goto (tgt := 106) d_MO_hitsOf_170 (by decide) ?_
            rw [show nI (bsn (hitB T D t d) p) = nI (bsn (hitB T D t d) (p + 1)) by simp only [bsn]; rw [hit3 (by omega), ← anyS_bit (by omega), (bit_and _ _).mp c3, c4]; simp]
            exact ih _ (by omega) (p + 1) rfl (by omega)
          · skip
            refine aw_iload d_MO_hitsOf_158 1 rfl ?_
            refine aw_iconst (v := nI 1) d_MO_hitsOf_160 (by decide) ?_
            refine aw_iload d_MO_hitsOf_161 0 rfl ?_
            refine aw_ishl1 d_MO_hitsOf_163 (by omega) ?_
            refine aw_iorN d_MO_hitsOf_164 ?_
            refine aw_istore (lv' := [(5, .int (nI ((bsn (hitB T D t d) p) ||| (2 ^ p)))), (6, .int (nI (p))), (4, .int (nI (anyS T D t d (prt T t)))), (3, .int (nI (qk T t))), (0, .ref (57)), (1, .int (nI (t))), (2, .int (nI (d)))]) d_MO_hitsOf_165 (by decide) rfl ?_
            refine aw_iinc (v := (nI (p + 1))) (lv' := [(6, .int (nI (p + 1))), (5, .int (nI ((bsn (hitB T D t d) p) ||| (2 ^ p)))), (4, .int (nI (anyS T D t d (prt T t)))), (3, .int (nI (qk T t))), (0, .ref (57)), (1, .int (nI (t))), (2, .int (nI (d)))]) d_MO_hitsOf_167 (j := 1) rfl (nI_add (p) 1) (by decide) rfl ?_
            refine aw_goto (tgt := 106) d_MO_hitsOf_170 (by decide) ?_
            rw [show nI ((bsn (hitB T D t d) p) ||| (2 ^ p)) = nI (bsn (hitB T D t d) (p + 1)) by simp only [bsn]; rw [hit3 (by omega), ← anyS_bit (by omega), (bit_and _ _).mp c3, c4]; simp]
            exact ih _ (by omega) (p + 1) rfl (by omega)
      · skip
        refine aw_aload_n d_MO_hitsOf_122 rfl 4 rfl ?_
        refine aw_iload_n d_MO_hitsOf_123 rfl 5 rfl ?_
        refine aw_iload_n d_MO_hitsOf_124 rfl 6 rfl ?_
        refine aw_iload d_MO_hitsOf_125 0 rfl ?_
        refine aw_callV (K' := k_MO_isNear) (As := [.int (nI (t)), .int (nI (d)), .int (nI (p))]) (rest := []) (b := 57) d_MO_hitsOf_127 rfl rfl rfl cs_MO_100 rfl (Nat.le_of_ble_eq_true rfl) (Nat.le_of_ble_eq_true rfl) (by decide) (by decide) (d' := 1) (w' := 22) (by decide) (by decide) ?_
        show AW _ _ _ _ _ _ _ [(0, .ref (57)), (1, .int (nI (t))), (2, .int (nI (d))), (3, .int (nI (p)))] _ _ _ _ _
        refine B_isNear wd dr wq qr h0 ht (by omega) (by omega) (by omega) (by omega) (by omega) ?_
        refine ab_go1 ?_
        refine aw_if_eqB (tgt := 167) d_MO_hitsOf_130 (by decide) (fun c5 => ?_) (fun c5 => ?_)
        · skip
          refine aw_iinc (v := (nI (p + 1))) (lv' := [(6, .int (nI (p + 1))), (5, .int (nI (bsn (hitB T D t d) p))), (4, .int (nI (anyS T D t d (prt T t)))), (3, .int (nI (qk T t))), (0, .ref (57)), (1, .int (nI (t))), (2, .int (nI (d)))]) d_MO_hitsOf_167 (j := 0) rfl (nI_add (p) 1) (by decide) rfl ?_
          refine aw_goto (tgt := 106) d_MO_hitsOf_170 (by decide) ?_
          rw [show nI (bsn (hitB T D t d) p) = nI (bsn (hitB T D t d) (p + 1)) by simp only [bsn]; rw [hit2 (by omega), c5]; simp]
          exact ih _ (by omega) (p + 1) rfl (by omega)
        · skip
          refine aw_goto (tgt := 158) d_MO_hitsOf_133 (by decide) ?_
          refine aw_iload d_MO_hitsOf_158 1 rfl ?_
          refine aw_iconst (v := nI 1) d_MO_hitsOf_160 (by decide) ?_
          refine aw_iload d_MO_hitsOf_161 0 rfl ?_
          refine aw_ishl1 d_MO_hitsOf_163 (by omega) ?_
          refine aw_iorN d_MO_hitsOf_164 ?_
          refine aw_istore (lv' := [(5, .int (nI ((bsn (hitB T D t d) p) ||| (2 ^ p)))), (6, .int (nI (p))), (4, .int (nI (anyS T D t d (prt T t)))), (3, .int (nI (qk T t))), (0, .ref (57)), (1, .int (nI (t))), (2, .int (nI (d)))]) d_MO_hitsOf_165 (by decide) rfl ?_
          refine aw_iinc (v := (nI (p + 1))) (lv' := [(6, .int (nI (p + 1))), (5, .int (nI ((bsn (hitB T D t d) p) ||| (2 ^ p)))), (4, .int (nI (anyS T D t d (prt T t)))), (3, .int (nI (qk T t))), (0, .ref (57)), (1, .int (nI (t))), (2, .int (nI (d)))]) d_MO_hitsOf_167 (j := 1) rfl (nI_add (p) 1) (by decide) rfl ?_
          refine aw_goto (tgt := 106) d_MO_hitsOf_170 (by decide) ?_
          rw [show nI ((bsn (hitB T D t d) p) ||| (2 ^ p)) = nI (bsn (hitB T D t d) (p + 1)) by simp only [bsn]; rw [hit2 (by omega), c5]; simp]
          exact ih _ (by omega) (p + 1) rfl (by omega)
set_option maxRecDepth 4000 in
theorem B_hits_l1 {l : Launch} {M : ab_M} {Q : ab_O → ab_M → Prop} {D : Dg} {T : Qg} (wd : wD D) (dr : iDR D M) (wq : wQ T) (qr : iQR T M) (h0 : op T (qn T) = 0) {t : Nat} (ht : t < qn T) (h2 : 2 ≤ qk T t) (h4 : qk T t ≤ 4) {d : Nat} (hdn : d < dn D) (hQ : Q (.inl (some (.int (nI (bsn (hitB T D t d) (dl D d)))))) M) : ∀ (k : Nat) (i : Nat), 6 - i = k → (hi : 1 ≤ i) → (hi2 : i ≤ prt T t + 1) → AW sys l ab_Zt k_MO_hitsOf 2 48 60 [(6, .int (nI (i))), (5, .int (nI (0))), (4, .int (nI (anyS T D t d (i - 1)))), (3, .int (nI (qk T t))), (0, .ref (57)), (1, .int (nI (t))), (2, .int (nI (d)))] [] M 0 0 Q := by
  intro k
  induction k using Nat.strongRecOn with
  | ind k ih =>
    intro i hk hi hi2
    have h12 := wd.1
    have h24 := wq.1
    have hl := wd.2.1 d
    obtain ⟨g1, g2, g3, g4, g5, g6⟩ := wq.2.1 t ht
    have hp4 := prt_le (wq.2.1 t ht)
    have hx : i ≤ prt T t → qa T (t + i) < 16 ∧ t + i < qn T := fun h => by have := trm_lt wq h0 ht h2 h4 (i := i - 1) (by omega); simp only [trm] at this; rw [show t + 1 + (i - 1) = t + i by omega] at this; exact this
    refine aw_iload d_MO_hitsOf_60 0 rfl ?_
    refine aw_aload_n d_MO_hitsOf_62 rfl 4 rfl ?_
    refine aw_iload_n d_MO_hitsOf_63 rfl 5 rfl ?_
    refine aw_callV (K' := k_MO_partsOf) (As := [.int (nI (t))]) (rest := [.int (nI (i))]) (b := 57) d_MO_hitsOf_64 rfl rfl rfl cs_MO_71 rfl (Nat.le_of_ble_eq_true rfl) (Nat.le_of_ble_eq_true rfl) (by decide) (by decide) (d' := 0) (w' := 0) (by decide) (by decide) ?_
    show AW _ _ _ _ _ _ _ [(0, .ref (57)), (1, .int (nI (t)))] _ _ _ _ _
    refine B_partsOf wq qr (by omega) ?_
    refine ab_go1 ?_
    refine aw_icmp_gtN (tgt := 95) d_MO_hitsOf_67 (by decide) (by omega) (by omega) (fun c1 => ?_) (fun c1 => ?_)
    · skip
      refine aw_iload_n d_MO_hitsOf_95 rfl 3 rfl ?_
      refine aw_iconst (v := nI 4) d_MO_hitsOf_96 (by decide) ?_
      refine aw_icmp_neN (tgt := 103) d_MO_hitsOf_97 (by decide) (by omega) (by omega) (fun c2 => ?_) (fun c2 => ?_)
      · skip
        refine aw_iconst (v := nI 0) d_MO_hitsOf_103 (by decide) ?_
        refine aw_istore (lv' := [(6, .int (nI (0))), (5, .int (nI (0))), (4, .int (nI (anyS T D t d (i - 1)))), (3, .int (nI (qk T t))), (0, .ref (57)), (1, .int (nI (t))), (2, .int (nI (d)))]) d_MO_hitsOf_104 (by decide) rfl ?_
        rw [show i - 1 = prt T t by omega]
        exact B_hits_l2 wd dr wq qr h0 ht h2 h4 (by omega) hdn hQ _ 0 rfl (by omega)
      · skip
        refine aw_iload d_MO_hitsOf_100 2 rfl ?_
        refine aw_iret d_MO_hitsOf_102 rfl (by decide) (by decide) ?_
        exact q_n (by rw [show i - 1 = prt T t by omega]; simp only [anyS]; exact bsn_congr (fun p hp => by rw [hit4 (by omega)]; exact (an_congr _ (fun j _ => (std_in hp).symm)))) hQ
    · skip
      refine aw_iload d_MO_hitsOf_70 2 rfl ?_
      refine aw_aload_n d_MO_hitsOf_72 rfl 4 rfl ?_
      refine aw_iload_n d_MO_hitsOf_73 rfl 6 rfl ?_
      refine aw_aload_n d_MO_hitsOf_74 rfl 4 rfl ?_
      refine aw_get (ic := 57) (ci := 6) (k := 6) d_MO_hitsOf_75 rfl rfl (by decide) rfl mw_781 rfl ?_
      refine aw_iload_n d_MO_hitsOf_78 rfl 5 rfl ?_
      refine aw_iload d_MO_hitsOf_79 0 rfl ?_
      refine aw_iaddN d_MO_hitsOf_81 ?_
      refine aw_ialdN d_MO_hitsOf_82 rfl (by decide) (by omega) ?_
      refine aw_eqi (nI (qa T (t + i))) (qr.2.2.1 _ (by omega)) ?_
      refine aw_callV (K' := k_MO_places) (As := [.int (nI (d)), .int (nI (qa T (t + i)))]) (rest := [.int (nI (anyS T D t d (i - 1)))]) (b := 57) d_MO_hitsOf_83 rfl rfl rfl cs_MO_96 rfl (Nat.le_of_ble_eq_true rfl) (Nat.le_of_ble_eq_true rfl) (by decide) (by decide) (d' := 0) (w' := 0) (by decide) (by decide) ?_
      show AW _ _ _ _ _ _ _ [(0, .ref (57)), (1, .int (nI (d))), (2, .int (nI (qa T (t + i))))] _ _ _ _ _
      refine B_places wd dr (by omega) (by omega) ?_
      refine ab_go1 ?_
      refine aw_iorN d_MO_hitsOf_86 ?_
      refine aw_istore (lv' := [(4, .int (nI ((anyS T D t d (i - 1)) ||| (bsn (fw D d (qa T (t + i))) (dl D d))))), (6, .int (nI (i))), (5, .int (nI (0))), (3, .int (nI (qk T t))), (0, .ref (57)), (1, .int (nI (t))), (2, .int (nI (d)))]) d_MO_hitsOf_87 (by decide) rfl ?_
      refine aw_iinc (v := (nI (i + 1))) (lv' := [(6, .int (nI (i + 1))), (4, .int (nI ((anyS T D t d (i - 1)) ||| (bsn (fw D d (qa T (t + i))) (dl D d))))), (5, .int (nI (0))), (3, .int (nI (qk T t))), (0, .ref (57)), (1, .int (nI (t))), (2, .int (nI (d)))]) d_MO_hitsOf_89 (j := 1) rfl (nI_add (i) 1) (by decide) rfl ?_
      refine aw_goto (tgt := 60) d_MO_hitsOf_92 (by decide) ?_
      refine aw_pick [0, 2, 1, 3, 4, 5, 6] rfl ?_
      rw [show nI ((anyS T D t d (i - 1)) ||| (bsn (fw D d (qa T (t + i))) (dl D d))) = nI (anyS T D t d (i + 1 - 1)) by rw [show i + 1 - 1 = i - 1 + 1 by omega, ← anyS_step]; simp only [trm]; rw [show t + 1 + (i - 1) = t + i by omega]]
      exact ih _ (by omega) (i + 1) rfl (by omega) (by omega)
set_option maxRecDepth 4000 in
theorem B_hitsOf {l : Launch} {M : ab_M} {Q : ab_O → ab_M → Prop} {D : Dg} {T : Qg} (wd : wD D) (dr : iDR D M) (wq : wQ T) (qr : iQR T M) (h0 : op T (qn T) = 0) {t : Nat} (ht : t < qn T) (hk4 : qk T t ≤ 4) {d : Nat} (hdn : d < dn D) (hQ : Q (.inl (some (.int (nI (bsn (hitB T D t d) (dl D d)))))) M) : AW sys l ab_Zt k_MO_hitsOf 2 48 0 [(0, .ref (57)), (1, .int (nI (t))), (2, .int (nI (d)))] [] M 0 0 Q := by
  have h12 := wd.1
  have h24 := wq.1
  have hl := wd.2.1 d
  obtain ⟨g1, g2, g3, g4, g5, g6⟩ := wq.2.1 t ht
  have hp4 := prt_le (wq.2.1 t ht)
  have htt := wd.2.2.2.2 d
  refine aw_aload_n d_MO_hitsOf_0 rfl 0 rfl ?_
  refine aw_get (ic := 57) (ci := 6) (k := 5) d_MO_hitsOf_1 rfl rfl (by decide) rfl mw_780 rfl ?_
  refine aw_iload_n d_MO_hitsOf_4 rfl 1 rfl ?_
  refine aw_ialdN d_MO_hitsOf_5 rfl (by decide) (by omega) ?_
  refine aw_eqi (nI (qk T t)) (qr.2.1 _ (by omega)) ?_
  refine aw_istore_n (lv' := [(3, .int (nI (qk T t))), (0, .ref (57)), (1, .int (nI (t))), (2, .int (nI (d)))]) d_MO_hitsOf_6 rfl (by decide) rfl ?_
  refine aw_iload_n d_MO_hitsOf_7 rfl 0 rfl ?_
  refine aw_if_neN (tgt := 23) d_MO_hitsOf_8 (by decide) (by omega) (fun c1 => ?_) (fun c1 => ?_)
  · skip
    refine aw_iload_n d_MO_hitsOf_23 rfl 0 rfl ?_
    refine aw_iconst (v := nI 1) d_MO_hitsOf_24 (by decide) ?_
    refine aw_icmp_neN (tgt := 51) d_MO_hitsOf_25 (by decide) (by omega) (by omega) (fun c2 => ?_) (fun c2 => ?_)
    · skip
      refine aw_iconst (v := nI 0) d_MO_hitsOf_51 (by decide) ?_
      refine aw_istore (lv' := [(4, .int (nI (0))), (3, .int (nI (qk T t))), (0, .ref (57)), (1, .int (nI (t))), (2, .int (nI (d)))]) d_MO_hitsOf_52 (by decide) rfl ?_
      refine aw_iconst (v := nI 0) d_MO_hitsOf_54 (by decide) ?_
      refine aw_istore (lv' := [(5, .int (nI (0))), (4, .int (nI (0))), (3, .int (nI (qk T t))), (0, .ref (57)), (1, .int (nI (t))), (2, .int (nI (d)))]) d_MO_hitsOf_55 (by decide) rfl ?_
      refine aw_iconst (v := nI 1) d_MO_hitsOf_57 (by decide) ?_
      refine aw_istore (lv' := [(6, .int (nI (1))), (5, .int (nI (0))), (4, .int (nI (0))), (3, .int (nI (qk T t))), (0, .ref (57)), (1, .int (nI (t))), (2, .int (nI (d)))]) d_MO_hitsOf_58 (by decide) rfl ?_
      have e9 : anyS T D t d (1 - 1) = 0 := bsn_none (fun i _ => rfl)
      refine cast (by rw [e9]) (B_hits_l1 wd dr wq qr h0 ht (by omega) (by omega) hdn hQ _ 1 rfl (by omega) (by omega))
    · skip
      refine aw_aload_n d_MO_hitsOf_28 rfl 1 rfl ?_
      refine aw_iload_n d_MO_hitsOf_29 rfl 3 rfl ?_
      refine aw_aload_n d_MO_hitsOf_30 rfl 1 rfl ?_
      refine aw_get (ic := 57) (ci := 6) (k := 6) d_MO_hitsOf_31 rfl rfl (by decide) rfl mw_781 rfl ?_
      refine aw_iload_n d_MO_hitsOf_34 rfl 2 rfl ?_
      refine aw_ialdN d_MO_hitsOf_35 rfl (by decide) (by omega) ?_
      refine aw_eqi (nI (qa T t)) (qr.2.2.1 _ (by omega)) ?_
      refine aw_callV (K' := k_MO_places) (As := [.int (nI (d)), .int (nI (qa T t))]) (rest := []) (b := 57) d_MO_hitsOf_36 rfl rfl rfl cs_MO_96 rfl (Nat.le_of_ble_eq_true rfl) (Nat.le_of_ble_eq_true rfl) (by decide) (by decide) (d' := 0) (w' := 0) (by decide) (by decide) ?_
      show AW _ _ _ _ _ _ _ [(0, .ref (57)), (1, .int (nI (d))), (2, .int (nI (qa T t)))] _ _ _ _ _
      refine B_places wd dr (by omega) (by omega) ?_
      refine ab_go1 ?_
      refine aw_iconst (v := nI 1) d_MO_hitsOf_39 (by decide) ?_
      refine aw_aload_n d_MO_hitsOf_40 rfl 1 rfl ?_
      refine aw_get (ic := 57) (ci := 6) (k := 3) d_MO_hitsOf_41 rfl rfl (by decide) rfl mw_778 rfl ?_
      refine aw_iload_n d_MO_hitsOf_44 rfl 3 rfl ?_
      refine aw_ialdN d_MO_hitsOf_45 rfl (by decide) (by omega) ?_
      refine aw_eqi (nI (dt D d)) (dr.2.2.2 _ (by omega)) ?_
      refine aw_ishl1 d_MO_hitsOf_46 (by omega) ?_
      refine aw_iconst (v := nI 1) d_MO_hitsOf_47 (by decide) ?_
      refine aw_isubN d_MO_hitsOf_48 Nat.one_le_two_pow ?_
      refine aw_iandN d_MO_hitsOf_49 ?_
      refine aw_iret d_MO_hitsOf_50 rfl (by decide) (by decide) ?_
      exact q_n (by rw [bsn_title]; exact bsn_congr (fun p hp => by rw [hit1 (by omega), std_in hp, Bool.and_comm])) hQ
  · skip
    refine aw_aload_n d_MO_hitsOf_11 rfl 1 rfl ?_
    refine aw_iload_n d_MO_hitsOf_12 rfl 3 rfl ?_
    refine aw_aload_n d_MO_hitsOf_13 rfl 1 rfl ?_
    refine aw_get (ic := 57) (ci := 6) (k := 6) d_MO_hitsOf_14 rfl rfl (by decide) rfl mw_781 rfl ?_
    refine aw_iload_n d_MO_hitsOf_17 rfl 2 rfl ?_
    refine aw_ialdN d_MO_hitsOf_18 rfl (by decide) (by omega) ?_
    refine aw_eqi (nI (qa T t)) (qr.2.2.1 _ (by omega)) ?_
    refine aw_callV (K' := k_MO_places) (As := [.int (nI (d)), .int (nI (qa T t))]) (rest := []) (b := 57) d_MO_hitsOf_19 rfl rfl rfl cs_MO_96 rfl (Nat.le_of_ble_eq_true rfl) (Nat.le_of_ble_eq_true rfl) (by decide) (by decide) (d' := 0) (w' := 0) (by decide) (by decide) ?_
    show AW _ _ _ _ _ _ _ [(0, .ref (57)), (1, .int (nI (d))), (2, .int (nI (qa T t)))] _ _ _ _ _
    refine B_places wd dr (by omega) (by omega) ?_
    refine ab_go1 ?_
    refine aw_iret d_MO_hitsOf_22 rfl (by decide) (by decide) ?_
    exact q_n (bsn_congr (fun p hp => by rw [hit0 (by omega), std_in hp])) hQ
