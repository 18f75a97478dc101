/-! HITS (rows laid by gen/m3.py) -/
def NX (D : Dg) (w d p : Nat) : Nat := if nx (fw D d w) (dl D d) p < dl D d then nx (fw D d w) (dl D d) p else 48
def trm (T : Qg) (t i : Nat) : Nat := qa T (t + 1 + i)
def anyP (T : Qg) (D : Dg) (t d p : Nat) : Bool := an (fun i => std D (trm T t i) d p) (prt T t)
def arnd (T : Qg) (D : Dg) (t d p : Nat) : Bool := al (fun i => decide (NX D (trm T t i) d p < p + qa T t)) (prt T t)
def way (T : Qg) (D : Dg) (t d p : Nat) : Nat → Option Nat
  | 0 => if std D (trm T t 0) d p then some p else none
  | i + 1 => match way T D t d p i with
    | none => none
    | some a => if NX D (trm T t (i + 1)) d (a + 1) ≤ a + qa T t then some (NX D (trm T t (i + 1)) d (a + 1)) else none
def wayB (T : Qg) (D : Dg) (t d p : Nat) : Bool := (way T D t d p (prt T t - 1)).isSome
def hitB (T : Qg) (D : Dg) (t d p : Nat) : Bool := if qk T t = 0 then std D (qa T t) d p else if qk T t = 1 then decide (p < dt D d) && std D (qa T t) d p else if qk T t = 2 then wayB T D t d p else if qk T t = 3 then anyP T D t d p && arnd T D t d p else anyP T D t d p
theorem hit0 {T : Qg} {D : Dg} {t d p : Nat} (h : qk T t = 0) : hitB T D t d p = std D (qa T t) d p := by simp only [hitB, h]; rfl
theorem hit1 {T : Qg} {D : Dg} {t d p : Nat} (h : qk T t = 1) : hitB T D t d p = (decide (p < dt D d) && std D (qa T t) d p) := by simp only [hitB, h]; rfl
theorem hit2 {T : Qg} {D : Dg} {t d p : Nat} (h : qk T t = 2) : hitB T D t d p = wayB T D t d p := by simp only [hitB, h]; rfl
theorem hit3 {T : Qg} {D : Dg} {t d p : Nat} (h : qk T t = 3) : hitB T D t d p = (anyP T D t d p && arnd T D t d p) := by simp only [hitB, h]; rfl
theorem hit4 {T : Qg} {D : Dg} {t d p : Nat} (h : qk T t = 4) : hitB T D t d p = anyP T D t d p := by simp only [hitB, h]; rfl
theorem NX_le (D : Dg) (wd : wD D) (w d p : Nat) (h : p ≤ 48) : p ≤ NX D w d p ∧ NX D w d p ≤ 48 := by
  have hl := wd.2.1 d
  simp only [NX]
  split
  · rename_i h1
    refine ⟨?_, by omega⟩
    by_cases h2 : p ≤ dl D d
    · exact (nx_spec _ p rfl h2).1
    · rw [nx_end (by omega)] at h1; omega
  · omega
theorem NX_in {D : Dg} (wd : wD D) {w d p : Nat} (h : p ≤ dl D d) (h2 : NX D w d p < 48) : NX D w d p < dl D d ∧ NX D w d p = nx (fw D d w) (dl D d) p := by
  simp only [NX] at h2 ⊢
  by_cases h1 : nx (fw D d w) (dl D d) p < dl D d
  · rw [if_pos h1]; exact ⟨h1, rfl⟩
  · rw [if_neg h1] at h2; omega
theorem way_lt {T : Qg} {D : Dg} (wd : wD D) {t d p : Nat} (hn : qa T t ≤ 24) : ∀ (i a : Nat), way T D t d p i = some a → a < dl D d
  | 0, a, h => by
    simp only [way] at h
    by_cases hs : std D (trm T t 0) d p = true
    · rw [if_pos hs] at h; cases h
      simp only [std, Bool.and_eq_true, decide_eq_true_eq] at hs; exact hs.1
    · rw [if_neg hs] at h; cases h
  | i + 1, a, h => by
    simp only [way] at h
    cases hw : way T D t d p i with
    | none => rw [hw] at h; cases h
    | some b =>
      rw [hw] at h
      have hb := way_lt wd hn i b hw
      have hl := wd.2.1 d
      simp only [] at h
      by_cases hc : NX D (trm T t (i + 1)) d (b + 1) ≤ b + qa T t
      · rw [if_pos hc] at h; cases h
        exact (NX_in wd (by omega) (by omega)).1
      · rw [if_neg hc] at h; cases h
theorem way_step {T : Qg} {D : Dg} {t d p i a : Nat} (h : way T D t d p i = some a) (hc : NX D (trm T t (i + 1)) d (a + 1) ≤ a + qa T t) : way T D t d p (i + 1) = some (NX D (trm T t (i + 1)) d (a + 1)) := by
  simp only [way, h]; rw [if_pos hc]
theorem way_none {T : Qg} {D : Dg} {t d p i a : Nat} (h : way T D t d p i = some a) (hc : ¬ NX D (trm T t (i + 1)) d (a + 1) ≤ a + qa T t) : way T D t d p (i + 1) = none := by
  simp only [way, h]; rw [if_neg hc]
theorem way_stop {T : Qg} {D : Dg} {t d p i : Nat} (h : way T D t d p i = none) : ∀ j, way T D t d p (i + j) = none
  | 0 => h
  | j + 1 => by
    have := way_stop h j
    show way T D t d p (i + j + 1) = none
    simp only [way, this]
theorem wayB_f {T : Qg} {D : Dg} {t d p i : Nat} (h : way T D t d p i = none) (hi : i ≤ prt T t - 1) : wayB T D t d p = false := by
  have := way_stop h (prt T t - 1 - i)
  rw [show i + (prt T t - 1 - i) = prt T t - 1 by omega] at this
  simp only [wayB, this]; rfl
theorem trm_lt {T : Qg} (wq : wQ T) (h0 : op T (qn T) = 0) {t : Nat} (ht : t < qn T) (h2 : 2 ≤ qk T t) (h4 : qk T t ≤ 4) {i : Nat} (hi : i < prt T t) : trm T t i < 16 ∧ t + 1 + i < qn T := by
  have h1 := (win_in wq h0 ht h2 h4 i (by omega)).2 hi
  have hk := wq.2.2.2 t ht h2 h4 (i + 1) (by omega) (by omega) (by omega)
  rw [show t + (i + 1) = t + 1 + i by omega] at hk
  exact ⟨(wq.2.1 _ h1).2.1 (by omega), h1⟩
theorem bsn_congr {f g : Nat → Bool} {n : Nat} (h : ∀ i, i < n → f i = g i) : bsn f n = bsn g n :=
  bsn_eq (fun i => by
    rw [bsn_bit]
    by_cases hi : i < n
    · rw [h i hi]
    · simp [hi])
theorem std_in {D : Dg} {w d p : Nat} (h : p < dl D d) : std D w d p = fw D d w p := by simp only [std]; rw [decide_eq_true h]; rfl

set_option maxRecDepth 4000 in
theorem A_QU_termOf {l : Launch} {M : ab_M} {Q : ab_O → ab_M → Prop} {T : Qg} (wq : wQ T) (qc : iQC T M) (h0 : op T (qn T) = 0) {t : Nat} (ht : t < qn T) (h2 : 2 ≤ qk T t) (h4 : qk T t ≤ 4) {n : Nat} (hn : n < prt T t) (hQ : Q (.inl (some (.int (nI (trm T t n))))) M) : AW sys l ab_Zt k_QU_termOf 1 24 0 [(0, .ref (17)), (1, .int (nI (t))), (2, .int (nI (n)))] [] M 0 0 Q := by
  have h24 := wq.1
  have hp4 := prt_le (wq.2.1 t ht)
  have hx := (trm_lt wq h0 ht h2 h4 hn).2
  refine aw_aload_n d_QU_termOf_0 rfl 0 rfl ?_
  refine aw_get (ic := 17) (ci := 2) (k := 1) (v := .ref 19) d_QU_termOf_1 rfl rfl (by decide) rfl mw_93 rfl ?_
  refine aw_iload_n d_QU_termOf_4 rfl 1 rfl ?_
  refine aw_iconst (v := nI 1) d_QU_termOf_5 (by decide) ?_
  refine aw_iaddN d_QU_termOf_6 ?_
  refine aw_iload_n d_QU_termOf_7 rfl 2 rfl ?_
  refine aw_iaddN d_QU_termOf_8 ?_
  refine aw_ialdN d_QU_termOf_9 rfl (by decide) (by omega) ?_
  refine aw_eqi (nI (qa T ((t + 1) + n))) (qc.2.2.1 _ (by omega)) ?_
  refine aw_iret d_QU_termOf_10 rfl (by decide) (by decide) ?_
  exact hQ
set_option maxRecDepth 4000 in
theorem A_any_loop {l : Launch} {M : ab_M} {Q : ab_O → ab_M → Prop} {D : Dg} {T : Qg} (wd : wD D) (dc : iDC D M) (wq : wQ T) (qc : iQC T M) (h0 : op T (qn T) = 0) {t : Nat} (ht : t < qn T) (h2 : 2 ≤ qk T t) (h4 : qk T t ≤ 4) {d p : Nat} (hd : d < 12) (hp : p < dl D d) (hQ : Q (.inl (some (.int (nI (bN (anyP T D t d p)))))) M) : ∀ (k : Nat) (i : Nat), 5 - i = k → (hi : i ≤ prt T t) → (hf : an (fun i => std D (trm T t i) d p) i = false) → AW sys l ab_Zt k_NE_standsAny 2 46 3 [(4, .int (nI (i))), (0, .ref (22)), (1, .int (nI (t))), (2, .int (nI (d))), (3, .int (nI (p)))] [] M 0 0 Q := by
  intro k
  induction k using Nat.strongRecOn with
  | ind k ih =>
    intro i hk hi hf
    have h24 := wq.1
    have hl := wd.2.1 d
    obtain ⟨g1, g2, g3, g4, g5, g6⟩ := wq.2.1 t ht
    have hp4 := prt_le (wq.2.1 t ht)
    refine aw_iload d_NE_standsAny_3 0 rfl ?_
    refine aw_aload_n d_NE_standsAny_5 rfl 1 rfl ?_
    refine aw_get (ic := 22) (ci := 3) (k := 1) d_NE_standsAny_6 rfl rfl (by decide) rfl mw_124 rfl ?_
    refine aw_iload_n d_NE_standsAny_9 rfl 2 rfl ?_
    refine aw_callV (K' := k_QU_partsOf) (As := [.int (nI (t))]) (rest := [.int (nI (i))]) (b := 17) d_NE_standsAny_10 rfl rfl rfl cs_NE_105 rfl (Nat.le_of_ble_eq_true rfl) (Nat.le_of_ble_eq_true rfl) (by decide) (by decide) (d' := 0) (w' := 0) (by decide) (by decide) ?_
    show AW _ _ _ _ _ _ _ [(0, .ref (17)), (1, .int (nI (t)))] _ _ _ _ _
    refine A_QU_partsOf wq qc (by omega) ?_
    refine ab_go1 ?_
    refine aw_icmp_geN (tgt := 46) d_NE_standsAny_13 (by decide) (by omega) (by omega) (fun c1 => ?_) (fun c1 => ?_)
    · skip
      refine aw_iconst (v := nI 0) d_NE_standsAny_46 (by decide) ?_
      refine aw_zret (Or.inl rfl) d_NE_standsAny_47 rfl (by decide) (by decide) ?_
      exact q_b (c := false) (by rw [show i = prt T t by omega] at hf; exact hf) rfl hQ
    · skip
      refine aw_aload_n d_NE_standsAny_16 rfl 1 rfl ?_
      refine aw_get (ic := 22) (ci := 3) (k := 0) d_NE_standsAny_17 rfl rfl (by decide) rfl mw_123 rfl ?_
      refine aw_aload_n d_NE_standsAny_20 rfl 1 rfl ?_
      refine aw_get (ic := 22) (ci := 3) (k := 1) d_NE_standsAny_21 rfl rfl (by decide) rfl mw_124 rfl ?_
      refine aw_iload_n d_NE_standsAny_24 rfl 2 rfl ?_
      refine aw_iload d_NE_standsAny_25 0 rfl ?_
      refine aw_callV (K' := k_QU_termOf) (As := [.int (nI (t)), .int (nI (i))]) (rest := [.ref (1)]) (b := 17) d_NE_standsAny_27 rfl rfl rfl cs_NE_102 rfl (Nat.le_of_ble_eq_true rfl) (Nat.le_of_ble_eq_true rfl) (by decide) (by decide) (d' := 1) (w' := 24) (by decide) (by decide) ?_
      show AW _ _ _ _ _ _ _ [(0, .ref (17)), (1, .int (nI (t))), (2, .int (nI (i)))] _ _ _ _ _
      have hx2 := (trm_lt wq h0 ht h2 h4 (i := i) (by omega)).1
      refine A_QU_termOf wq qc h0 ht h2 h4 (by omega) ?_
      refine ab_go1 ?_
      refine aw_iload_n d_NE_standsAny_30 rfl 3 rfl ?_
      refine aw_iload_n d_NE_standsAny_31 rfl 4 rfl ?_
      refine aw_callV (K' := k_TX_stands) (As := [.int (nI (trm T t i)), .int (nI (d)), .int (nI (p))]) (rest := []) (b := 1) d_NE_standsAny_32 rfl rfl rfl cs_NE_87 rfl (Nat.le_of_ble_eq_true rfl) (Nat.le_of_ble_eq_true rfl) (by decide) (by decide) (d' := 0) (w' := 0) (by decide) (by decide) ?_
      show AW _ _ _ _ _ _ _ [(0, .ref (1)), (1, .int (nI (trm T t i))), (2, .int (nI (d))), (3, .int (nI (p)))] _ _ _ _ _
      refine A_TX_stands wd dc (by omega) (by omega) (by omega) ?_
      refine ab_go1 ?_
      refine aw_if_eqB (tgt := 40) d_NE_standsAny_35 (by decide) (fun c3 => ?_) (fun c3 => ?_)
      · skip
        refine aw_iinc (v := (nI (i + 1))) (lv' := [(4, .int (nI (i + 1))), (0, .ref (22)), (1, .int (nI (t))), (2, .int (nI (d))), (3, .int (nI (p)))]) d_NE_standsAny_40 (j := 0) rfl (nI_add (i) 1) (by decide) rfl ?_
        refine aw_goto (tgt := 3) d_NE_standsAny_43 (by decide) ?_
        exact ih _ (by omega) (i + 1) rfl (by omega) (by simp only [an]; rw [hf, c3]; rfl)
      · skip
        refine aw_iconst (v := nI 1) d_NE_standsAny_38 (by decide) ?_
        refine aw_zret (Or.inr rfl) d_NE_standsAny_39 rfl (by decide) (by decide) ?_
        exact q_b (c := true) (an_true (i := i) (by omega) c3) rfl hQ
set_option maxRecDepth 4000 in
theorem A_standsAny {l : Launch} {M : ab_M} {Q : ab_O → ab_M → Prop} {D : Dg} {T : Qg} (wd : wD D) (dc : iDC D M) (wq : wQ T) (qc : iQC T M) (h0 : op T (qn T) = 0) {t : Nat} (ht : t < qn T) (h2 : 2 ≤ qk T t) (h4 : qk T t ≤ 4) {d p : Nat} (hd : d < 12) (hp : p < dl D d) (hQ : Q (.inl (some (.int (nI (bN (anyP T D t d p)))))) M) : AW sys l ab_Zt k_NE_standsAny 2 46 0 [(0, .ref (22)), (1, .int (nI (t))), (2, .int (nI (d))), (3, .int (nI (p)))] [] M 0 0 Q := by
  refine aw_iconst (v := nI 0) d_NE_standsAny_0 (by decide) ?_
  refine aw_istore (lv' := [(4, .int (nI (0))), (0, .ref (22)), (1, .int (nI (t))), (2, .int (nI (d))), (3, .int (nI (p)))]) d_NE_standsAny_1 (by decide) rfl ?_
  exact A_any_loop wd dc wq qc h0 ht h2 h4 hd hp hQ _ 0 rfl (by omega) rfl
set_option maxRecDepth 4000 in
theorem A_arnd_loop {l : Launch} {M : ab_M} {Q : ab_O → ab_M → Prop} {D : Dg} {T : Qg} (wd : wD D) (dc : iDC D M) (wq : wQ T) (qc : iQC T M) (h0 : op T (qn T) = 0) {t : Nat} (ht : t < qn T) (h2 : 2 ≤ qk T t) (h4 : qk T t ≤ 4) (h3 : qk T t = 2 ∨ qk T t = 3) {d p : Nat} (hd : d < 12) (hp : p < dl D d) (hQ : Q (.inl (some (.int (nI (bN (arnd T D t d p)))))) M) : ∀ (k : Nat) (i : Nat), 5 - i = k → (hi : i ≤ prt T t) → (hf : al (fun i => decide (NX D (trm T t i) d p < p + qa T t)) i = true) → AW sys l ab_Zt k_NE_standAllWithin 2 46 3 [(4, .int (nI (i))), (0, .ref (22)), (1, .int (nI (t))), (2, .int (nI (d))), (3, .int (nI (p)))] [] M 0 0 Q := by
  intro k
  induction k using Nat.strongRecOn with
  | ind k ih =>
    intro i hk hi hf
    have h24 := wq.1
    have hl := wd.2.1 d
    obtain ⟨g1, g2, g3, g4, g5, g6⟩ := wq.2.1 t ht
    have hp4 := prt_le (wq.2.1 t ht)
    have hnx := NX_le D wd (trm T t i) d p (by omega)
    have hq := g3 h3
    refine aw_iload d_NE_standAllWithin_3 0 rfl ?_
    refine aw_aload_n d_NE_standAllWithin_5 rfl 1 rfl ?_
    refine aw_get (ic := 22) (ci := 3) (k := 1) d_NE_standAllWithin_6 rfl rfl (by decide) rfl mw_124 rfl ?_
    refine aw_iload_n d_NE_standAllWithin_9 rfl 2 rfl ?_
    refine aw_callV (K' := k_QU_partsOf) (As := [.int (nI (t))]) (rest := [.int (nI (i))]) (b := 17) d_NE_standAllWithin_10 rfl rfl rfl cs_NE_105 rfl (Nat.le_of_ble_eq_true rfl) (Nat.le_of_ble_eq_true rfl) (by decide) (by decide) (d' := 0) (w' := 0) (by decide) (by decide) ?_
    show AW _ _ _ _ _ _ _ [(0, .ref (17)), (1, .int (nI (t)))] _ _ _ _ _
    refine A_QU_partsOf wq qc (by omega) ?_
    refine ab_go1 ?_
    refine aw_icmp_geN (tgt := 56) d_NE_standAllWithin_13 (by decide) (by omega) (by omega) (fun c1 => ?_) (fun c1 => ?_)
    · skip
      refine aw_iconst (v := nI 1) d_NE_standAllWithin_56 (by decide) ?_
      refine aw_zret (Or.inr rfl) d_NE_standAllWithin_57 rfl (by decide) (by decide) ?_
      exact q_b (c := true) (by rw [show i = prt T t by omega] at hf; exact hf) rfl hQ
    · skip
      refine aw_aload_n d_NE_standAllWithin_16 rfl 1 rfl ?_
      refine aw_get (ic := 22) (ci := 3) (k := 0) d_NE_standAllWithin_17 rfl rfl (by decide) rfl mw_123 rfl ?_
      refine aw_aload_n d_NE_standAllWithin_20 rfl 1 rfl ?_
      refine aw_get (ic := 22) (ci := 3) (k := 1) d_NE_standAllWithin_21 rfl rfl (by decide) rfl mw_124 rfl ?_
      refine aw_iload_n d_NE_standAllWithin_24 rfl 2 rfl ?_
      refine aw_iload d_NE_standAllWithin_25 0 rfl ?_
      refine aw_callV (K' := k_QU_termOf) (As := [.int (nI (t)), .int (nI (i))]) (rest := [.ref (1)]) (b := 17) d_NE_standAllWithin_27 rfl rfl rfl cs_NE_102 rfl (Nat.le_of_ble_eq_true rfl) (Nat.le_of_ble_eq_true rfl) (by decide) (by decide) (d' := 1) (w' := 24) (by decide) (by decide) ?_
      show AW _ _ _ _ _ _ _ [(0, .ref (17)), (1, .int (nI (t))), (2, .int (nI (i)))] _ _ _ _ _
      have hx2 := (trm_lt wq h0 ht h2 h4 (i := i) (by omega)).1
      refine A_QU_termOf wq qc h0 ht h2 h4 (by omega) ?_
      refine ab_go1 ?_
      refine aw_iload_n d_NE_standAllWithin_30 rfl 3 rfl ?_
      refine aw_iload_n d_NE_standAllWithin_31 rfl 4 rfl ?_
      refine aw_callV (K' := k_TX_nextPlace) (As := [.int (nI (trm T t i)), .int (nI (d)), .int (nI (p))]) (rest := []) (b := 1) d_NE_standAllWithin_32 rfl rfl rfl cs_NE_108 rfl (Nat.le_of_ble_eq_true rfl) (Nat.le_of_ble_eq_true rfl) (by decide) (by decide) (d' := 0) (w' := 0) (by decide) (by decide) ?_
      show AW _ _ _ _ _ _ _ [(0, .ref (1)), (1, .int (nI (trm T t i))), (2, .int (nI (d))), (3, .int (nI (p)))] _ _ _ _ _
      refine A_TX_nextPlace wd dc (by omega) (by omega) (by omega) ?_
      change ab_ret _ (.inl (some (.int (nI (NX D (trm T t i) d p))))) _
      refine ab_go1 ?_
      refine aw_iload_n d_NE_standAllWithin_35 rfl 4 rfl ?_
      refine aw_aload_n d_NE_standAllWithin_36 rfl 1 rfl ?_
      refine aw_get (ic := 22) (ci := 3) (k := 1) d_NE_standAllWithin_37 rfl rfl (by decide) rfl mw_124 rfl ?_
      refine aw_iload_n d_NE_standAllWithin_40 rfl 2 rfl ?_
      refine aw_callV (K' := k_QU_numberOf) (As := [.int (nI (t))]) (rest := [.int (nI (p)), .int (nI (NX D (trm T t i) d p))]) (b := 17) d_NE_standAllWithin_41 rfl rfl rfl cs_NE_84 rfl (Nat.le_of_ble_eq_true rfl) (Nat.le_of_ble_eq_true rfl) (by decide) (by decide) (d' := 0) (w' := 0) (by decide) (by decide) ?_
      show AW _ _ _ _ _ _ _ [(0, .ref (17)), (1, .int (nI (t)))] _ _ _ _ _
      refine aw_aload_n d_QU_numberOf_0 rfl 0 rfl ?_
      refine aw_get (ic := 17) (ci := 2) (k := 1) d_QU_numberOf_1 rfl rfl (by decide) rfl mw_93 rfl ?_
      refine aw_iload_n d_QU_numberOf_4 rfl 1 rfl ?_
      refine aw_ialdN d_QU_numberOf_5 rfl (by decide) (by omega) ?_
      refine aw_eqi (nI (qa T t)) (qc.2.2.1 _ (by omega)) ?_
      refine aw_iret d_QU_numberOf_6 rfl (by decide) (by decide) (ab_go1 ?_)
      refine aw_iaddN d_NE_standAllWithin_44 ?_
      refine aw_icmp_ltN (tgt := 50) d_NE_standAllWithin_45 (by decide) (by omega) (by omega) (fun c3 => ?_) (fun c3 => ?_)
      · skip
        refine aw_iinc (v := (nI (i + 1))) (lv' := [(4, .int (nI (i + 1))), (0, .ref (22)), (1, .int (nI (t))), (2, .int (nI (d))), (3, .int (nI (p)))]) d_NE_standAllWithin_50 (j := 0) rfl (nI_add (i) 1) (by decide) rfl ?_
        refine aw_goto (tgt := 3) d_NE_standAllWithin_53 (by decide) ?_
        exact ih _ (by omega) (i + 1) rfl (by omega) (by simp only [al]; rw [hf, decide_eq_true c3]; rfl)
      · skip
        refine aw_iconst (v := nI 0) d_NE_standAllWithin_48 (by decide) ?_
        refine aw_zret (Or.inl rfl) d_NE_standAllWithin_49 rfl (by decide) (by decide) ?_
        exact q_b (c := false) (al_false (i := i) (by omega) (decide_eq_false (by omega))) rfl hQ
set_option maxRecDepth 4000 in
theorem A_standAllWithin {l : Launch} {M : ab_M} {Q : ab_O → ab_M → Prop} {D : Dg} {T : Qg} (wd : wD D) (dc : iDC D M) (wq : wQ T) (qc : iQC T M) (h0 : op T (qn T) = 0) {t : Nat} (ht : t < qn T) (h2 : 2 ≤ qk T t) (h4 : qk T t ≤ 4) (h3 : qk T t = 2 ∨ qk T t = 3) {d p : Nat} (hd : d < 12) (hp : p < dl D d) (hQ : Q (.inl (some (.int (nI (bN (arnd T D t d p)))))) M) : AW sys l ab_Zt k_NE_standAllWithin 2 46 0 [(0, .ref (22)), (1, .int (nI (t))), (2, .int (nI (d))), (3, .int (nI (p)))] [] M 0 0 Q := by
  refine aw_iconst (v := nI 0) d_NE_standAllWithin_0 (by decide) ?_
  refine aw_istore (lv' := [(4, .int (nI (0))), (0, .ref (22)), (1, .int (nI (t))), (2, .int (nI (d))), (3, .int (nI (p)))]) d_NE_standAllWithin_1 (by decide) rfl ?_
  exact A_arnd_loop wd dc wq qc h0 ht h2 h4 h3 hd hp hQ _ 0 rfl (by omega) rfl
set_option maxRecDepth 4000 in
theorem A_way_loop {l : Launch} {M : ab_M} {Q : ab_O → ab_M → Prop} {D : Dg} {T : Qg} (wd : wD D) (dc : iDC D M) (wq : wQ T) (qc : iQC T M) (h0 : op T (qn T) = 0) {t : Nat} (ht : t < qn T) (h2 : 2 ≤ qk T t) (h4 : qk T t ≤ 4) (h3 : qk T t = 2 ∨ qk T t = 3) {d p : Nat} (hd : d < 12) (hp : p < dl D d) (hQ : Q (.inl (some (.int (nI (bN (wayB T D t d p)))))) M) : ∀ (k : Nat) (i : Nat) (a : Nat), 5 - i = k → (hi : 1 ≤ i) → (hi2 : i ≤ prt T t) → (hw : way T D t d p (i - 1) = some a) → AW sys l ab_Zt k_NE_startsWay 2 46 29 [(5, .int (nI (i))), (4, .int (nI (a))), (0, .ref (22)), (1, .int (nI (t))), (2, .int (nI (d))), (3, .int (nI (p)))] [] M 0 0 Q := by
  intro k
  induction k using Nat.strongRecOn with
  | ind k ih =>
    intro i a hk hi hi2 hw
    have h24 := wq.1
    have hl := wd.2.1 d
    obtain ⟨g1, g2, g3, g4, g5, g6⟩ := wq.2.1 t ht
    have hp4 := prt_le (wq.2.1 t ht)
    have hq := g3 h3
    have ha := way_lt wd hq.2 _ _ hw
    have hnx := NX_le D wd (trm T t i) d (a + 1) (by omega)
    refine aw_iload d_NE_startsWay_29 0 rfl ?_
    refine aw_aload_n d_NE_startsWay_31 rfl 2 rfl ?_
    refine aw_get (ic := 22) (ci := 3) (k := 1) d_NE_startsWay_32 rfl rfl (by decide) rfl mw_124 rfl ?_
    refine aw_iload_n d_NE_startsWay_35 rfl 3 rfl ?_
    refine aw_callV (K' := k_QU_partsOf) (As := [.int (nI (t))]) (rest := [.int (nI (i))]) (b := 17) d_NE_startsWay_36 rfl rfl rfl cs_NE_105 rfl (Nat.le_of_ble_eq_true rfl) (Nat.le_of_ble_eq_true rfl) (by decide) (by decide) (d' := 0) (w' := 0) (by decide) (by decide) ?_
    show AW _ _ _ _ _ _ _ [(0, .ref (17)), (1, .int (nI (t)))] _ _ _ _ _
    refine A_QU_partsOf wq qc (by omega) ?_
    refine ab_go1 ?_
    refine aw_icmp_geN (tgt := 94) d_NE_startsWay_39 (by decide) (by omega) (by omega) (fun c1 => ?_) (fun c1 => ?_)
    · skip
      refine aw_iconst (v := nI 1) d_NE_startsWay_94 (by decide) ?_
      refine aw_zret (Or.inr rfl) d_NE_startsWay_95 rfl (by decide) (by decide) ?_
      exact q_b (c := true) (by simp only [wayB]; rw [show prt T t - 1 = i - 1 by omega, hw]; rfl) rfl hQ
    · skip
      refine aw_aload_n d_NE_startsWay_42 rfl 2 rfl ?_
      refine aw_get (ic := 22) (ci := 3) (k := 0) d_NE_startsWay_43 rfl rfl (by decide) rfl mw_123 rfl ?_
      refine aw_aload_n d_NE_startsWay_46 rfl 2 rfl ?_
      refine aw_get (ic := 22) (ci := 3) (k := 1) d_NE_startsWay_47 rfl rfl (by decide) rfl mw_124 rfl ?_
      refine aw_iload_n d_NE_startsWay_50 rfl 3 rfl ?_
      refine aw_iload d_NE_startsWay_51 0 rfl ?_
      refine aw_callV (K' := k_QU_termOf) (As := [.int (nI (t)), .int (nI (i))]) (rest := [.ref (1)]) (b := 17) d_NE_startsWay_53 rfl rfl rfl cs_NE_102 rfl (Nat.le_of_ble_eq_true rfl) (Nat.le_of_ble_eq_true rfl) (by decide) (by decide) (d' := 1) (w' := 24) (by decide) (by decide) ?_
      show AW _ _ _ _ _ _ _ [(0, .ref (17)), (1, .int (nI (t))), (2, .int (nI (i)))] _ _ _ _ _
      have hx2 := (trm_lt wq h0 ht h2 h4 (i := i) (by omega)).1
      refine A_QU_termOf wq qc h0 ht h2 h4 (by omega) ?_
      refine ab_go1 ?_
      refine aw_iload_n d_NE_startsWay_56 rfl 4 rfl ?_
      refine aw_iload d_NE_startsWay_57 1 rfl ?_
      refine aw_iconst (v := nI 1) d_NE_startsWay_59 (by decide) ?_
      refine aw_iaddN d_NE_startsWay_60 ?_
      refine aw_callV (K' := k_TX_nextPlace) (As := [.int (nI (trm T t i)), .int (nI (d)), .int (nI (a + 1))]) (rest := []) (b := 1) d_NE_startsWay_61 rfl rfl rfl cs_NE_108 rfl (Nat.le_of_ble_eq_true rfl) (Nat.le_of_ble_eq_true rfl) (by decide) (by decide) (d' := 0) (w' := 0) (by decide) (by decide) ?_
      show AW _ _ _ _ _ _ _ [(0, .ref (1)), (1, .int (nI (trm T t i))), (2, .int (nI (d))), (3, .int (nI (a + 1)))] _ _ _ _ _
      refine A_TX_nextPlace wd dc (by omega) (by omega) (by omega) ?_
      change ab_ret _ (.inl (some (.int (nI (NX D (trm T t i) d (a + 1)))))) _
      refine ab_go1 ?_
      refine aw_istore (lv' := [(6, .int (nI (NX D (trm T t i) d (a + 1)))), (5, .int (nI (i))), (4, .int (nI (a))), (0, .ref (22)), (1, .int (nI (t))), (2, .int (nI (d))), (3, .int (nI (p)))]) d_NE_startsWay_64 (by decide) rfl ?_
      refine aw_iload d_NE_startsWay_66 0 rfl ?_
      refine aw_iload d_NE_startsWay_68 2 rfl ?_
      refine aw_isubN d_NE_startsWay_70 (by omega) ?_
      refine aw_aload_n d_NE_startsWay_71 rfl 3 rfl ?_
      refine aw_get (ic := 22) (ci := 3) (k := 1) d_NE_startsWay_72 rfl rfl (by decide) rfl mw_124 rfl ?_
      refine aw_iload_n d_NE_startsWay_75 rfl 4 rfl ?_
      refine aw_callV (K' := k_QU_numberOf) (As := [.int (nI (t))]) (rest := [.int (nI ((NX D (trm T t i) d (a + 1)) - a))]) (b := 17) d_NE_startsWay_76 rfl rfl rfl cs_NE_84 rfl (Nat.le_of_ble_eq_true rfl) (Nat.le_of_ble_eq_true rfl) (by decide) (by decide) (d' := 0) (w' := 0) (by decide) (by decide) ?_
      show AW _ _ _ _ _ _ _ [(0, .ref (17)), (1, .int (nI (t)))] _ _ _ _ _
      refine aw_aload_n d_QU_numberOf_0 rfl 0 rfl ?_
      refine aw_get (ic := 17) (ci := 2) (k := 1) d_QU_numberOf_1 rfl rfl (by decide) rfl mw_93 rfl ?_
      refine aw_iload_n d_QU_numberOf_4 rfl 1 rfl ?_
      refine aw_ialdN d_QU_numberOf_5 rfl (by decide) (by omega) ?_
      refine aw_eqi (nI (qa T t)) (qc.2.2.1 _ (by omega)) ?_
      refine aw_iret d_QU_numberOf_6 rfl (by decide) (by decide) (ab_go1 ?_)
      refine aw_icmp_leN (tgt := 84) d_NE_startsWay_79 (by decide) (by omega) (by omega) (fun c3 => ?_) (fun c3 => ?_)
      · skip
        refine aw_iload d_NE_startsWay_84 0 rfl ?_
        refine aw_istore (lv' := [(4, .int (nI (NX D (trm T t i) d (a + 1)))), (6, .int (nI (NX D (trm T t i) d (a + 1)))), (5, .int (nI (i))), (0, .ref (22)), (1, .int (nI (t))), (2, .int (nI (d))), (3, .int (nI (p)))]) d_NE_startsWay_86 (by decide) rfl ?_
        refine aw_iinc (v := (nI (i + 1))) (lv' := [(5, .int (nI (i + 1))), (4, .int (nI (NX D (trm T t i) d (a + 1)))), (6, .int (nI (NX D (trm T t i) d (a + 1)))), (0, .ref (22)), (1, .int (nI (t))), (2, .int (nI (d))), (3, .int (nI (p)))]) d_NE_startsWay_88 (j := 2) rfl (nI_add (i) 1) (by decide) rfl ?_
        refine aw_goto (tgt := 29) d_NE_startsWay_91 (by decide) ?_
        refine aw_pick [0, 1, 3, 4, 5, 6] rfl ?_
        exact ih _ (by omega) (i + 1) _ rfl (by omega) (by omega) (by have := way_step hw (by rw [show i - 1 + 1 = i by omega]; omega); rw [show i - 1 + 1 = i by omega] at this; rw [show i + 1 - 1 = i by omega]; exact this)
      · skip
        refine aw_iconst (v := nI 0) d_NE_startsWay_82 (by decide) ?_
        refine aw_zret (Or.inl rfl) d_NE_startsWay_83 rfl (by decide) (by decide) ?_
        exact q_b (c := false) (wayB_f (way_none hw (by rw [show i - 1 + 1 = i by omega]; omega)) (by omega)) rfl hQ
set_option maxRecDepth 4000 in
theorem A_startsWay {l : Launch} {M : ab_M} {Q : ab_O → ab_M → Prop} {D : Dg} {T : Qg} (wd : wD D) (dc : iDC D M) (wq : wQ T) (qc : iQC T M) (h0 : op T (qn T) = 0) {t : Nat} (ht : t < qn T) (h2 : 2 ≤ qk T t) (h4 : qk T t ≤ 4) (h3 : qk T t = 2 ∨ qk T t = 3) {d p : Nat} (hd : d < 12) (hp : p < dl D d) (hQ : Q (.inl (some (.int (nI (bN (wayB T D t d p)))))) M) : AW sys l ab_Zt k_NE_startsWay 2 46 0 [(0, .ref (22)), (1, .int (nI (t))), (2, .int (nI (d))), (3, .int (nI (p)))] [] M 0 0 Q := by
  have h24 := wq.1
  have hl := wd.2.1 d
  obtain ⟨g1, g2, g3, g4, g5, g6⟩ := wq.2.1 t ht
  have hp4 := prt_le (wq.2.1 t ht)
  have h1p : 1 ≤ prt T t := by rw [prt_win h2 h4]; exact (g5 h2 h4).2.1
  refine aw_aload_n d_NE_startsWay_0 rfl 0 rfl ?_
  refine aw_get (ic := 22) (ci := 3) (k := 0) d_NE_startsWay_1 rfl rfl (by decide) rfl mw_123 rfl ?_
  refine aw_aload_n d_NE_startsWay_4 rfl 0 rfl ?_
  refine aw_get (ic := 22) (ci := 3) (k := 1) d_NE_startsWay_5 rfl rfl (by decide) rfl mw_124 rfl ?_
  refine aw_iload_n d_NE_startsWay_8 rfl 1 rfl ?_
  refine aw_iconst (v := nI 0) d_NE_startsWay_9 (by decide) ?_
  refine aw_callV (K' := k_QU_termOf) (As := [.int (nI (t)), .int (nI (0))]) (rest := [.ref (1)]) (b := 17) d_NE_startsWay_10 rfl rfl rfl cs_NE_102 rfl (Nat.le_of_ble_eq_true rfl) (Nat.le_of_ble_eq_true rfl) (by decide) (by decide) (d' := 1) (w' := 24) (by decide) (by decide) ?_
  show AW _ _ _ _ _ _ _ [(0, .ref (17)), (1, .int (nI (t))), (2, .int (nI (0)))] _ _ _ _ _
  have hx1 := (trm_lt wq h0 ht h2 h4 (i := 0) (by omega)).1
  refine A_QU_termOf wq qc h0 ht h2 h4 (by omega) ?_
  refine ab_go1 ?_
  refine aw_iload_n d_NE_startsWay_13 rfl 2 rfl ?_
  refine aw_iload_n d_NE_startsWay_14 rfl 3 rfl ?_
  refine aw_callV (K' := k_TX_stands) (As := [.int (nI (trm T t 0)), .int (nI (d)), .int (nI (p))]) (rest := []) (b := 1) d_NE_startsWay_15 rfl rfl rfl cs_NE_87 rfl (Nat.le_of_ble_eq_true rfl) (Nat.le_of_ble_eq_true rfl) (by decide) (by decide) (d' := 0) (w' := 0) (by decide) (by decide) ?_
  show AW _ _ _ _ _ _ _ [(0, .ref (1)), (1, .int (nI (trm T t 0))), (2, .int (nI (d))), (3, .int (nI (p)))] _ _ _ _ _
  refine A_TX_stands wd dc (by omega) (by omega) (by omega) ?_
  refine ab_go1 ?_
  refine aw_if_neB (tgt := 23) d_NE_startsWay_18 (by decide) (fun c2 => ?_) (fun c2 => ?_)
  · skip
    refine aw_iload_n d_NE_startsWay_23 rfl 3 rfl ?_
    refine aw_istore (lv' := [(4, .int (nI (p))), (0, .ref (22)), (1, .int (nI (t))), (2, .int (nI (d))), (3, .int (nI (p)))]) d_NE_startsWay_24 (by decide) rfl ?_
    refine aw_iconst (v := nI 1) d_NE_startsWay_26 (by decide) ?_
    refine aw_istore (lv' := [(5, .int (nI (1))), (4, .int (nI (p))), (0, .ref (22)), (1, .int (nI (t))), (2, .int (nI (d))), (3, .int (nI (p)))]) d_NE_startsWay_27 (by decide) rfl ?_
    exact A_way_loop wd dc wq qc h0 ht h2 h4 h3 hd hp hQ _ 1 p rfl (by omega) (by omega) (by show way T D t d p 0 = some p; simp only [way]; rw [c2]; rfl)
  · skip
    refine aw_iconst (v := nI 0) d_NE_startsWay_21 (by decide) ?_
    refine aw_zret (Or.inl rfl) d_NE_startsWay_22 rfl (by decide) (by decide) ?_
    exact q_b (c := false) (wayB_f (i := 0) (by simp only [way]; rw [c2]; rfl) (by omega)) rfl hQ
set_option maxRecDepth 4000 in
theorem A_isHit {l : Launch} {M : ab_M} {Q : ab_O → ab_M → Prop} {D : Dg} {T : Qg} (wd : wD D) (dc : iDC D M) (wq : wQ T) (qc : iQC T M) (h0 : op T (qn T) = 0) {t : Nat} (ht : t < qn T) (hk4 : qk T t ≤ 4) {d p : Nat} (hd : d < 12) (hdn : d < dn D) (hp : p < dl D d) (hQ : Q (.inl (some (.int (nI (bN (hitB T D t d p)))))) M) : AW sys l ab_Zt k_NE_isHit 3 72 0 [(0, .ref (22)), (1, .int (nI (t))), (2, .int (nI (d))), (3, .int (nI (p)))] [] M 0 0 Q := by
  have h24 := wq.1
  have hl := wd.2.1 d
  obtain ⟨g1, g2, g3, g4, g5, g6⟩ := wq.2.1 t ht
  have hp4 := prt_le (wq.2.1 t ht)
  have htl := wd.2.2.2.2 d
  refine aw_aload_n d_NE_isHit_0 rfl 0 rfl ?_
  refine aw_get (ic := 22) (ci := 3) (k := 1) d_NE_isHit_1 rfl rfl (by decide) rfl mw_124 rfl ?_
  refine aw_iload_n d_NE_isHit_4 rfl 1 rfl ?_
  refine aw_callV (K' := k_QU_kindOf) (As := [.int (nI (t))]) (rest := []) (b := 17) d_NE_isHit_5 rfl rfl rfl cs_NE_58 rfl (Nat.le_of_ble_eq_true rfl) (Nat.le_of_ble_eq_true rfl) (by decide) (by decide) (d' := 0) (w' := 0) (by decide) (by decide) ?_
  show AW _ _ _ _ _ _ _ [(0, .ref (17)), (1, .int (nI (t)))] _ _ _ _ _
  refine aw_aload_n d_QU_kindOf_0 rfl 0 rfl ?_
  refine aw_get (ic := 17) (ci := 2) (k := 0) d_QU_kindOf_1 rfl rfl (by decide) rfl mw_92 rfl ?_
  refine aw_iload_n d_QU_kindOf_4 rfl 1 rfl ?_
  refine aw_ialdN d_QU_kindOf_5 rfl (by decide) (by omega) ?_
  refine aw_eqi (nI (qk T t)) (qc.2.1 _ (by omega)) ?_
  refine aw_iret d_QU_kindOf_6 rfl (by decide) (by decide) (ab_go1 ?_)
  by_cases c1 : qk T t = 0
  · refine aw_tabN 40 (by omega) d_NE_isHit_8 (by rw [c1]; exact Or.inr ⟨_, by decide, by decide, rfl, by decide⟩) ?_
    refine aw_aload_n d_NE_isHit_40 rfl 0 rfl ?_
    refine aw_get (ic := 22) (ci := 3) (k := 0) d_NE_isHit_41 rfl rfl (by decide) rfl mw_123 rfl ?_
    refine aw_aload_n d_NE_isHit_44 rfl 0 rfl ?_
    refine aw_get (ic := 22) (ci := 3) (k := 1) d_NE_isHit_45 rfl rfl (by decide) rfl mw_124 rfl ?_
    refine aw_iload_n d_NE_isHit_48 rfl 1 rfl ?_
    refine aw_callV (K' := k_QU_numberOf) (As := [.int (nI (t))]) (rest := [.ref (1)]) (b := 17) d_NE_isHit_49 rfl rfl rfl cs_NE_84 rfl (Nat.le_of_ble_eq_true rfl) (Nat.le_of_ble_eq_true rfl) (by decide) (by decide) (d' := 0) (w' := 0) (by decide) (by decide) ?_
    show AW _ _ _ _ _ _ _ [(0, .ref (17)), (1, .int (nI (t)))] _ _ _ _ _
    refine aw_aload_n d_QU_numberOf_0 rfl 0 rfl ?_
    refine aw_get (ic := 17) (ci := 2) (k := 1) d_QU_numberOf_1 rfl rfl (by decide) rfl mw_93 rfl ?_
    refine aw_iload_n d_QU_numberOf_4 rfl 1 rfl ?_
    refine aw_ialdN d_QU_numberOf_5 rfl (by decide) (by omega) ?_
    refine aw_eqi (nI (qa T t)) (qc.2.2.1 _ (by omega)) ?_
    refine aw_iret d_QU_numberOf_6 rfl (by decide) (by decide) (ab_go1 ?_)
    refine aw_iload_n d_NE_isHit_52 rfl 2 rfl ?_
    refine aw_iload_n d_NE_isHit_53 rfl 3 rfl ?_
    refine aw_callV (K' := k_TX_stands) (As := [.int (nI (qa T t)), .int (nI (d)), .int (nI (p))]) (rest := []) (b := 1) d_NE_isHit_54 rfl rfl rfl cs_NE_87 rfl (Nat.le_of_ble_eq_true rfl) (Nat.le_of_ble_eq_true rfl) (by decide) (by decide) (d' := 0) (w' := 0) (by decide) (by decide) ?_
    show AW _ _ _ _ _ _ _ [(0, .ref (1)), (1, .int (nI (qa T t))), (2, .int (nI (d))), (3, .int (nI (p)))] _ _ _ _ _
    refine A_TX_stands wd dc (by omega) (by omega) (by omega) ?_
    refine ab_go1 ?_
    refine aw_zret (nI_b _) d_NE_isHit_57 rfl (by decide) (by decide) ?_
    rw [hit0 (by omega)] at hQ; exact hQ
  by_cases c2 : qk T t = 1
  · refine aw_tabN 58 (by omega) d_NE_isHit_8 (by rw [c2]; exact Or.inr ⟨_, by decide, by decide, rfl, by decide⟩) ?_
    refine aw_aload_n d_NE_isHit_58 rfl 0 rfl ?_
    refine aw_get (ic := 22) (ci := 3) (k := 0) d_NE_isHit_59 rfl rfl (by decide) rfl mw_123 rfl ?_
    refine aw_aload_n d_NE_isHit_62 rfl 0 rfl ?_
    refine aw_get (ic := 22) (ci := 3) (k := 1) d_NE_isHit_63 rfl rfl (by decide) rfl mw_124 rfl ?_
    refine aw_iload_n d_NE_isHit_66 rfl 1 rfl ?_
    refine aw_callV (K' := k_QU_numberOf) (As := [.int (nI (t))]) (rest := [.ref (1)]) (b := 17) d_NE_isHit_67 rfl rfl rfl cs_NE_84 rfl (Nat.le_of_ble_eq_true rfl) (Nat.le_of_ble_eq_true rfl) (by decide) (by decide) (d' := 0) (w' := 0) (by decide) (by decide) ?_
    show AW _ _ _ _ _ _ _ [(0, .ref (17)), (1, .int (nI (t)))] _ _ _ _ _
    refine aw_aload_n d_QU_numberOf_0 rfl 0 rfl ?_
    refine aw_get (ic := 17) (ci := 2) (k := 1) d_QU_numberOf_1 rfl rfl (by decide) rfl mw_93 rfl ?_
    refine aw_iload_n d_QU_numberOf_4 rfl 1 rfl ?_
    refine aw_ialdN d_QU_numberOf_5 rfl (by decide) (by omega) ?_
    refine aw_eqi (nI (qa T t)) (qc.2.2.1 _ (by omega)) ?_
    refine aw_iret d_QU_numberOf_6 rfl (by decide) (by decide) (ab_go1 ?_)
    refine aw_iload_n d_NE_isHit_70 rfl 2 rfl ?_
    refine aw_iload_n d_NE_isHit_71 rfl 3 rfl ?_
    refine aw_callV (K' := k_TX_standsInTitle) (As := [.int (nI (qa T t)), .int (nI (d)), .int (nI (p))]) (rest := []) (b := 1) d_NE_isHit_72 rfl rfl rfl cs_NE_90 rfl (Nat.le_of_ble_eq_true rfl) (Nat.le_of_ble_eq_true rfl) (by decide) (by decide) (d' := 1) (w' := 23) (by decide) (by decide) ?_
    show AW _ _ _ _ _ _ _ [(0, .ref (1)), (1, .int (nI (qa T t))), (2, .int (nI (d))), (3, .int (nI (p)))] _ _ _ _ _
    refine aw_iload_n d_TX_standsInTitle_0 rfl 3 rfl ?_
    refine aw_aload_n d_TX_standsInTitle_1 rfl 0 rfl ?_
    refine aw_get (ic := 1) (ci := 1) (k := 2) d_TX_standsInTitle_2 rfl rfl (by decide) rfl mw_71 rfl ?_
    refine aw_iload_n d_TX_standsInTitle_5 rfl 2 rfl ?_
    refine aw_ialdN d_TX_standsInTitle_6 rfl (by decide) (by omega) ?_
    refine aw_eqi (nI (dt D d)) (dc.2.2.2.2 _ (by omega)) ?_
    refine aw_icmp_geN (tgt := 24) d_TX_standsInTitle_7 (by decide) (by omega) (by omega) (fun c3 => ?_) (fun c3 => ?_)
    · skip
      refine aw_iconst (v := nI 0) d_TX_standsInTitle_24 (by decide) ?_
      refine aw_zret (Or.inl rfl) d_TX_standsInTitle_25 rfl (by decide) (by decide) (ab_go1 ?_)
      refine aw_zret (Or.inl rfl) d_NE_isHit_75 rfl (by decide) (by decide) ?_
      rw [hit1 (by omega)] at hQ; exact q_b (c := false) (by rw [decide_eq_false (by omega)]; rfl) rfl hQ
    · skip
      refine aw_aload_n d_TX_standsInTitle_10 rfl 0 rfl ?_
      refine aw_iload_n d_TX_standsInTitle_11 rfl 1 rfl ?_
      refine aw_iload_n d_TX_standsInTitle_12 rfl 2 rfl ?_
      refine aw_iload_n d_TX_standsInTitle_13 rfl 3 rfl ?_
      refine aw_callV (K' := k_TX_stands) (As := [.int (nI (qa T t)), .int (nI (d)), .int (nI (p))]) (rest := []) (b := 1) d_TX_standsInTitle_14 rfl rfl rfl cs_TX_30 rfl (Nat.le_of_ble_eq_true rfl) (Nat.le_of_ble_eq_true rfl) (by decide) (by decide) (d' := 0) (w' := 0) (by decide) (by decide) ?_
      show AW _ _ _ _ _ _ _ [(0, .ref (1)), (1, .int (nI (qa T t))), (2, .int (nI (d))), (3, .int (nI (p)))] _ _ _ _ _
      refine A_TX_stands wd dc (by omega) (by omega) (by omega) ?_
      refine ab_go1 ?_
      refine aw_if_eqB (tgt := 24) d_TX_standsInTitle_17 (by decide) (fun c4 => ?_) (fun c4 => ?_)
      · skip
        refine aw_iconst (v := nI 0) d_TX_standsInTitle_24 (by decide) ?_
        refine aw_zret (Or.inl rfl) d_TX_standsInTitle_25 rfl (by decide) (by decide) (ab_go1 ?_)
        refine aw_zret (Or.inl rfl) d_NE_isHit_75 rfl (by decide) (by decide) ?_
        rw [hit1 (by omega)] at hQ; exact q_b (c := false) (by rw [decide_eq_true (by omega), c4]; rfl) rfl hQ
      · skip
        refine aw_iconst (v := nI 1) d_TX_standsInTitle_20 (by decide) ?_
        refine aw_goto (tgt := 25) d_TX_standsInTitle_21 (by decide) ?_
        refine aw_zret (Or.inr rfl) d_TX_standsInTitle_25 rfl (by decide) (by decide) (ab_go1 ?_)
        refine aw_zret (Or.inr rfl) d_NE_isHit_75 rfl (by decide) (by decide) ?_
        rw [hit1 (by omega)] at hQ; exact q_b (c := true) (by rw [decide_eq_true (by omega), c4]; rfl) rfl hQ
  by_cases c5 : qk T t = 2
  · refine aw_tabN 76 (by omega) d_NE_isHit_8 (by rw [c5]; exact Or.inr ⟨_, by decide, by decide, rfl, by decide⟩) ?_
    refine aw_aload_n d_NE_isHit_76 rfl 0 rfl ?_
    refine aw_iload_n d_NE_isHit_77 rfl 1 rfl ?_
    refine aw_iload_n d_NE_isHit_78 rfl 2 rfl ?_
    refine aw_iload_n d_NE_isHit_79 rfl 3 rfl ?_
    refine aw_callV (K' := k_NE_startsWay) (As := [.int (nI (t)), .int (nI (d)), .int (nI (p))]) (rest := []) (b := 22) d_NE_isHit_80 rfl rfl rfl cs_NE_93 rfl (Nat.le_of_ble_eq_true rfl) (Nat.le_of_ble_eq_true rfl) (by decide) (by decide) (d' := 2) (w' := 46) (by decide) (by decide) ?_
    show AW _ _ _ _ _ _ _ [(0, .ref (22)), (1, .int (nI (t))), (2, .int (nI (d))), (3, .int (nI (p)))] _ _ _ _ _
    refine A_startsWay wd dc wq qc h0 ht (by omega) (by omega) (by omega) hd hp ?_
    refine ab_go1 ?_
    refine aw_zret (nI_b _) d_NE_isHit_83 rfl (by decide) (by decide) ?_
    rw [hit2 (by omega)] at hQ; exact hQ
  by_cases c6 : qk T t = 3
  · refine aw_tabN 84 (by omega) d_NE_isHit_8 (by rw [c6]; exact Or.inr ⟨_, by decide, by decide, rfl, by decide⟩) ?_
    refine aw_aload_n d_NE_isHit_84 rfl 0 rfl ?_
    refine aw_iload_n d_NE_isHit_85 rfl 1 rfl ?_
    refine aw_iload_n d_NE_isHit_86 rfl 2 rfl ?_
    refine aw_iload_n d_NE_isHit_87 rfl 3 rfl ?_
    refine aw_callV (K' := k_NE_standsAny) (As := [.int (nI (t)), .int (nI (d)), .int (nI (p))]) (rest := []) (b := 22) d_NE_isHit_88 rfl rfl rfl cs_NE_96 rfl (Nat.le_of_ble_eq_true rfl) (Nat.le_of_ble_eq_true rfl) (by decide) (by decide) (d' := 2) (w' := 46) (by decide) (by decide) ?_
    show AW _ _ _ _ _ _ _ [(0, .ref (22)), (1, .int (nI (t))), (2, .int (nI (d))), (3, .int (nI (p)))] _ _ _ _ _
    refine A_standsAny wd dc wq qc h0 ht (by omega) (by omega) hd hp ?_
    refine ab_go1 ?_
    refine aw_if_eqB (tgt := 108) d_NE_isHit_91 (by decide) (fun c7 => ?_) (fun c7 => ?_)
    · skip
      refine aw_iconst (v := nI 0) d_NE_isHit_108 (by decide) ?_
      refine aw_zret (Or.inl rfl) d_NE_isHit_109 rfl (by decide) (by decide) ?_
      rw [hit3 (by omega)] at hQ; exact q_b (c := false) (by rw [c7]; rfl) rfl hQ
    · skip
      refine aw_aload_n d_NE_isHit_94 rfl 0 rfl ?_
      refine aw_iload_n d_NE_isHit_95 rfl 1 rfl ?_
      refine aw_iload_n d_NE_isHit_96 rfl 2 rfl ?_
      refine aw_iload_n d_NE_isHit_97 rfl 3 rfl ?_
      refine aw_callV (K' := k_NE_standAllWithin) (As := [.int (nI (t)), .int (nI (d)), .int (nI (p))]) (rest := []) (b := 22) d_NE_isHit_98 rfl rfl rfl cs_NE_99 rfl (Nat.le_of_ble_eq_true rfl) (Nat.le_of_ble_eq_true rfl) (by decide) (by decide) (d' := 2) (w' := 46) (by decide) (by decide) ?_
      show AW _ _ _ _ _ _ _ [(0, .ref (22)), (1, .int (nI (t))), (2, .int (nI (d))), (3, .int (nI (p)))] _ _ _ _ _
      refine A_standAllWithin wd dc wq qc h0 ht (by omega) (by omega) (by omega) hd hp ?_
      refine ab_go1 ?_
      refine aw_if_eqB (tgt := 108) d_NE_isHit_101 (by decide) (fun c8 => ?_) (fun c8 => ?_)
      · skip
        refine aw_iconst (v := nI 0) d_NE_isHit_108 (by decide) ?_
        refine aw_zret (Or.inl rfl) d_NE_isHit_109 rfl (by decide) (by decide) ?_
        rw [hit3 (by omega)] at hQ; exact q_b (c := false) (by rw [c7, c8]; rfl) rfl hQ
      · skip
        refine aw_iconst (v := nI 1) d_NE_isHit_104 (by decide) ?_
        refine aw_goto (tgt := 109) d_NE_isHit_105 (by decide) ?_
        refine aw_zret (Or.inr rfl) d_NE_isHit_109 rfl (by decide) (by decide) ?_
        rw [hit3 (by omega)] at hQ; exact q_b (c := true) (by rw [c7, c8]; rfl) rfl hQ
  refine aw_tabN 110 (by omega) d_NE_isHit_8 (Or.inl ⟨by omega, by decide⟩) ?_
  refine aw_aload_n d_NE_isHit_110 rfl 0 rfl ?_
  refine aw_iload_n d_NE_isHit_111 rfl 1 rfl ?_
  refine aw_iload_n d_NE_isHit_112 rfl 2 rfl ?_
  refine aw_iload_n d_NE_isHit_113 rfl 3 rfl ?_
  refine aw_callV (K' := k_NE_standsAny) (As := [.int (nI (t)), .int (nI (d)), .int (nI (p))]) (rest := []) (b := 22) d_NE_isHit_114 rfl rfl rfl cs_NE_96 rfl (Nat.le_of_ble_eq_true rfl) (Nat.le_of_ble_eq_true rfl) (by decide) (by decide) (d' := 2) (w' := 46) (by decide) (by decide) ?_
  show AW _ _ _ _ _ _ _ [(0, .ref (22)), (1, .int (nI (t))), (2, .int (nI (d))), (3, .int (nI (p)))] _ _ _ _ _
  refine A_standsAny wd dc wq qc h0 ht (by omega) (by omega) hd hp ?_
  refine ab_go1 ?_
  refine aw_zret (nI_b _) d_NE_isHit_117 rfl (by decide) (by decide) ?_
  rw [hit4 (by omega)] at hQ; exact hQ
set_option maxRecDepth 4000 in
theorem A_hitsIn_loop {l : Launch} {M : ab_M} {Q : ab_O → ab_M → Prop} {D : Dg} {T : Qg} (wd : wD D) (dc : iDC D M) (wq : wQ T) (qc : iQC T M) (h0 : op T (qn T) = 0) {t : Nat} (ht : t < qn T) (hk4 : qk T t ≤ 4) {d : Nat} (hdn : d < dn D) (hQ : Q (.inl (some (.int (nI (cn (hitB T D t d) (dl D d)))))) M) : ∀ (k : Nat) (p : Nat), 24 - p = k → (hp : p ≤ dl D d) → AW sys l ab_Zt k_NE_hitsIn 4 95 5 [(4, .int (nI (p))), (3, .int (nI (cn (hitB T D t d) p))), (0, .ref (22)), (1, .int (nI (t))), (2, .int (nI (d)))] [] M 0 0 Q := by
  intro k
  induction k using Nat.strongRecOn with
  | ind k ih =>
    intro p hk hp
    have h12 := wd.1
    have hl := wd.2.1 d
    refine aw_iload d_NE_hitsIn_5 0 rfl ?_
    refine aw_aload_n d_NE_hitsIn_7 rfl 2 rfl ?_
    refine aw_get (ic := 22) (ci := 3) (k := 0) d_NE_hitsIn_8 rfl rfl (by decide) rfl mw_123 rfl ?_
    refine aw_iload_n d_NE_hitsIn_11 rfl 4 rfl ?_
    refine aw_callV (K' := k_TX_lengthOf) (As := [.int (nI (d))]) (rest := [.int (nI (p))]) (b := 1) d_NE_hitsIn_12 rfl rfl rfl cs_NE_42 rfl (Nat.le_of_ble_eq_true rfl) (Nat.le_of_ble_eq_true rfl) (by decide) (by decide) (d' := 0) (w' := 0) (by decide) (by decide) ?_
    show AW _ _ _ _ _ _ _ [(0, .ref (1)), (1, .int (nI (d)))] _ _ _ _ _
    refine aw_aload_n d_TX_lengthOf_0 rfl 0 rfl ?_
    refine aw_get (ic := 1) (ci := 1) (k := 1) d_TX_lengthOf_1 rfl rfl (by decide) rfl mw_70 rfl ?_
    refine aw_iload_n d_TX_lengthOf_4 rfl 1 rfl ?_
    refine aw_ialdN d_TX_lengthOf_5 rfl (by decide) (by omega) ?_
    refine aw_eqi (nI (dl D d)) (dc.2.2.1 _ (by omega)) ?_
    refine aw_iret d_TX_lengthOf_6 rfl (by decide) (by decide) (ab_go1 ?_)
    refine aw_icmp_geN (tgt := 38) d_NE_hitsIn_15 (by decide) (by omega) (by omega) (fun c1 => ?_) (fun c1 => ?_)
    · skip
      refine aw_iload_n d_NE_hitsIn_38 rfl 1 rfl ?_
      refine aw_iret d_NE_hitsIn_39 rfl (by decide) (by decide) ?_
      exact q_n (by rw [show p = dl D d by omega]) hQ
    · skip
      refine aw_aload_n d_NE_hitsIn_18 rfl 2 rfl ?_
      refine aw_iload_n d_NE_hitsIn_19 rfl 3 rfl ?_
      refine aw_iload_n d_NE_hitsIn_20 rfl 4 rfl ?_
      refine aw_iload d_NE_hitsIn_21 0 rfl ?_
      refine aw_callV (K' := k_NE_isHit) (As := [.int (nI (t)), .int (nI (d)), .int (nI (p))]) (rest := []) (b := 22) d_NE_hitsIn_23 rfl rfl rfl cs_NE_48 rfl (Nat.le_of_ble_eq_true rfl) (Nat.le_of_ble_eq_true rfl) (by decide) (by decide) (d' := 3) (w' := 72) (by decide) (by decide) ?_
      show AW _ _ _ _ _ _ _ [(0, .ref (22)), (1, .int (nI (t))), (2, .int (nI (d))), (3, .int (nI (p)))] _ _ _ _ _
      refine A_isHit wd dc wq qc h0 ht hk4 (by omega) hdn (by omega) ?_
      refine ab_go1 ?_
      refine aw_if_eqB (tgt := 32) d_NE_hitsIn_26 (by decide) (fun c2 => ?_) (fun c2 => ?_)
      · skip
        refine aw_iinc (v := (nI (p + 1))) (lv' := [(4, .int (nI (p + 1))), (3, .int (nI (cn (hitB T D t d) p))), (0, .ref (22)), (1, .int (nI (t))), (2, .int (nI (d)))]) d_NE_hitsIn_32 (j := 0) rfl (nI_add (p) 1) (by decide) rfl ?_
        refine aw_goto (tgt := 5) d_NE_hitsIn_35 (by decide) ?_
        rw [show nI (cn (hitB T D t d) p) = nI (cn (hitB T D t d) (p + 1)) by simp only [cn]; rw [c2]; rfl]
        exact ih _ (by omega) (p + 1) rfl (by omega)
      · skip
        refine aw_iinc (v := (nI ((cn (hitB T D t d) p) + 1))) (lv' := [(3, .int (nI ((cn (hitB T D t d) p) + 1))), (4, .int (nI (p))), (0, .ref (22)), (1, .int (nI (t))), (2, .int (nI (d)))]) d_NE_hitsIn_29 (j := 1) rfl (nI_add (cn (hitB T D t d) p) 1) (by decide) rfl ?_
        refine aw_iinc (v := (nI (p + 1))) (lv' := [(4, .int (nI (p + 1))), (3, .int (nI ((cn (hitB T D t d) p) + 1))), (0, .ref (22)), (1, .int (nI (t))), (2, .int (nI (d)))]) d_NE_hitsIn_32 (j := 1) rfl (nI_add (p) 1) (by decide) rfl ?_
        refine aw_goto (tgt := 5) d_NE_hitsIn_35 (by decide) ?_
        rw [show nI ((cn (hitB T D t d) p) + 1) = nI (cn (hitB T D t d) (p + 1)) by simp only [cn]; rw [c2]; rfl]
        exact ih _ (by omega) (p + 1) rfl (by omega)
set_option maxRecDepth 4000 in
theorem A_hitsIn {l : Launch} {M : ab_M} {Q : ab_O → ab_M → Prop} {D : Dg} {T : Qg} (wd : wD D) (dc : iDC D M) (wq : wQ T) (qc : iQC T M) (h0 : op T (qn T) = 0) {t : Nat} (ht : t < qn T) (hk4 : qk T t ≤ 4) {d : Nat} (hdn : d < dn D) (hQ : Q (.inl (some (.int (nI (cn (hitB T D t d) (dl D d)))))) M) : AW sys l ab_Zt k_NE_hitsIn 4 95 0 [(0, .ref (22)), (1, .int (nI (t))), (2, .int (nI (d)))] [] M 0 0 Q := by
  refine aw_iconst (v := nI 0) d_NE_hitsIn_0 (by decide) ?_
  refine aw_istore_n (lv' := [(3, .int (nI (0))), (0, .ref (22)), (1, .int (nI (t))), (2, .int (nI (d)))]) d_NE_hitsIn_1 rfl (by decide) rfl ?_
  refine aw_iconst (v := nI 0) d_NE_hitsIn_2 (by decide) ?_
  refine aw_istore (lv' := [(4, .int (nI (0))), (3, .int (nI (0))), (0, .ref (22)), (1, .int (nI (t))), (2, .int (nI (d)))]) d_NE_hitsIn_3 (by decide) rfl ?_
  exact A_hitsIn_loop wd dc wq qc h0 ht hk4 hdn hQ _ 0 rfl (by omega)
