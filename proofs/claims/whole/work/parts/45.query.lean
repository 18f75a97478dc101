/-! the QUERY: parts, ends, what is open (rows laid by gen/m2.py) -/
theorem q_i {Q : ab_O → ab_M → Prop} {M : ab_M} {a b : Int32} (e : a = b) (h : Q (.inl (some (.int b))) M) : Q (.inl (some (.int a))) M := e ▸ h
theorem prt_win {T : Qg} {t : Nat} (h2 : 2 ≤ qk T t) (h4 : qk T t ≤ 4) : prt T t = wn (qw T t) := by simp only [prt]; rw [if_neg (by omega), if_pos h4]
theorem prt_num {T : Qg} {t : Nat} (h2 : 5 ≤ qk T t) (h4 : qk T t ≤ 9) : prt T t = qa T t := by simp only [prt]; rw [if_neg (by omega), if_neg (by omega), if_pos h4]
theorem prt_0 {T : Qg} {t : Nat} (h : qk T t < 2) : prt T t = 0 := by simp only [prt]; rw [if_pos h]
theorem prt_1 {T : Qg} {t : Nat} (h : qk T t = 10) : prt T t = 1 := by simp only [prt]; rw [h]; rfl
theorem prt_2 {T : Qg} {t : Nat} (h : 11 ≤ qk T t) : prt T t = 2 := by simp only [prt]; rw [if_neg (by omega), if_neg (by omega), if_neg (by omega), if_neg (by omega)]
/-- the reference's look for a window behind which terms are wanted -/
theorem tw_back {T : Qg} : ∀ (j n : Nat), j ≤ n → (∀ i, i < j → ¬ (2 ≤ qk T (n - 1 - i) ∧ qk T (n - 1 - i) ≤ 4)) → tw T n = tw T (n - j) - j
  | 0, n, _, _ => by simp
  | j + 1, n, hj, h => by
    obtain ⟨m, rfl⟩ : ∃ m, n = m + 1 := ⟨n - 1, by omega⟩
    have h0 := h 0 (by omega)
    simp only [Nat.add_sub_cancel, Nat.sub_zero] at h0
    show (if 2 ≤ qk T m ∧ qk T m ≤ 4 then prt T m else tw T m - 1) = _
    rw [if_neg h0, tw_back j m (by omega) (fun i hi => by have := h (i + 1) (by omega); rw [show m + 1 - 1 - (i + 1) = m - 1 - i by omega] at this; exact this), show m + 1 - (j + 1) = m - j by omega]; omega
theorem tw_win {T : Qg} {t : Nat} (h : 2 ≤ qk T t ∧ qk T t ≤ 4) : tw T (t + 1) = prt T t := by show (if _ then _ else _) = _; rw [if_pos h]
theorem tw_le {T : Qg} : ∀ n, (∀ t, t < n → tgood T t) → tw T n ≤ 4
  | 0, _ => Nat.zero_le _
  | n + 1, h => by
    have := tw_le n (fun t ht => h t (by omega)); have h2 := prt_le (h n (by omega))
    simp only [tw]
    split <;> omega
theorem op_le {T : Qg} : ∀ n, (∀ t, t < n → tgood T t) → op T n ≤ 1 + 4 * n
  | 0, _ => by simp [op]
  | n + 1, h => by
    have := op_le n (fun t ht => h t (by omega)); have h2 := prt_le (h n (by omega))
    show op T n + prt T n - 1 ≤ _
    omega
theorem op_nI {T : Qg} {t : Nat} (h : 0 < op T t) : nI (op T t) + (nI (prt T t) - nI 1) = nI (op T (t + 1)) := by
  have e : nI (op T t) + (nI (prt T t) - nI 1) = nI (op T t + prt T t) - nI 1 := by rw [← nI_add, Int32.sub_eq_add_neg, Int32.sub_eq_add_neg, Int32.add_assoc]
  rw [e, ← op_succ h]
  exact nI_m1 _
theorem nI_dm (i : Nat) : nI i + Int32.ofInt (-1) = nI i - nI 1 := by rw [Int32.sub_eq_add_neg]; congr 1
theorem sub4_lt : ∀ i, i < 25 → ∀ n, n < 25 → (nI i < nI n - nI 4 ↔ i + 4 < n) := by decide +kernel
theorem aw_if_ltM {Y : ab_Y} {l : Launch} {Z : (Nat → Nat) → State → Prop} {K : ab_K} {d w pc : Nat} {lv : List (Nat × Value)} {st : List Value} {M : ab_M} {n1 n2 : Nat} {Q : ab_O → ab_M → Prop} {j : Nat} {off : Int} {tgt : Nat} (hd : decode (kB K) pc = .ok (.ifCond .lt off, 3)) (ht : (pc : Int) + off = (tgt : Int)) (kt : j = 0 → AW Y l Z K d w tgt lv st M n1 n2 Q) (kf : 0 < j → AW Y l Z K d w (pc + 3) lv st M n1 n2 Q) (hj : j < 2147483648 := by omega) : AW Y l Z K d w pc lv (.int (nI j - nI 1) :: st) M n1 n2 Q := by
  refine aw_if_lt hd ht (fun c => kt ?_) (fun c => kf ?_)
  · cases j with
    | zero => rfl
    | succ j => rw [nI_m1] at c; exact absurd c (nI_pos (by omega))
  · cases j with
    | zero => exact absurd (show nI 0 - nI 1 < 0 by decide) c
    | succ j => omega

set_option maxRecDepth 4000 in
theorem A_QU_partsOf {l : Launch} {M : ab_M} {Q : ab_O → ab_M → Prop} {T : Qg} (wq : wQ T) (qc : iQC T M) {t : Nat} (ht : t < qn T) (hQ : Q (.inl (some (.int (nI (prt T t))))) M) : AW sys l ab_Zt k_QU_partsOf 0 0 0 [(0, .ref (17)), (1, .int (nI (t)))] [] M 0 0 Q := by
  have h24 := wq.1
  obtain ⟨g1, g2, g3, g4, g5, g6⟩ := wq.2.1 t ht
  refine aw_aload_n d_QU_partsOf_0 rfl 0 rfl ?_
  refine aw_get (ic := 17) (ci := 2) (k := 0) d_QU_partsOf_1 rfl rfl (by decide) rfl mw_92 rfl ?_
  refine aw_iload_n d_QU_partsOf_4 rfl 1 rfl ?_
  refine aw_ialdN d_QU_partsOf_5 rfl (by decide) (by omega) ?_
  refine aw_eqi (nI (qk T t)) (qc.2.1 _ (by omega)) ?_
  by_cases c1 : qk T t = 2 ∨ qk T t = 3 ∨ qk T t = 4
  · refine aw_tabN 60 (by omega) d_QU_partsOf_6 (by rcases c1 with h | h | h <;> rw [h] <;> exact Or.inr ⟨_, by decide, by decide, rfl, by decide⟩) ?_
    refine aw_aload_n d_QU_partsOf_60 rfl 0 rfl ?_
    refine aw_get (ic := 17) (ci := 2) (k := 2) d_QU_partsOf_61 rfl rfl (by decide) rfl mw_94 rfl ?_
    refine aw_iload_n d_QU_partsOf_64 rfl 1 rfl ?_
    refine aw_daldN d_QU_partsOf_65 rfl (by decide) (by omega) ?_
    refine aw_eqd (qw T t) (qc.2.2.2.1 _ (by omega)) ?_
    refine aw_d2i d_QU_partsOf_66 ?_
    refine aw_iret d_QU_partsOf_67 rfl (by decide) (by decide) ?_
    first | exact q_i (by rw [prt_win (by omega) (by omega), (g5 (by omega) (by omega)).1]) hQ | exact q_n (by rw [prt_num (by omega) (by omega)]) hQ | exact q_n (by rw [prt_1 (by omega)]) hQ | exact q_n (by rw [prt_0 (by omega)]) hQ | exact q_n (by rw [prt_2 (by omega)]) hQ
  by_cases c2 : qk T t = 5 ∨ qk T t = 6 ∨ qk T t = 7 ∨ qk T t = 8 ∨ qk T t = 9
  · refine aw_tabN 68 (by omega) d_QU_partsOf_6 (by rcases c2 with h | h | h | h | h <;> rw [h] <;> exact Or.inr ⟨_, by decide, by decide, rfl, by decide⟩) ?_
    refine aw_aload_n d_QU_partsOf_68 rfl 0 rfl ?_
    refine aw_get (ic := 17) (ci := 2) (k := 1) d_QU_partsOf_69 rfl rfl (by decide) rfl mw_93 rfl ?_
    refine aw_iload_n d_QU_partsOf_72 rfl 1 rfl ?_
    refine aw_ialdN d_QU_partsOf_73 rfl (by decide) (by omega) ?_
    refine aw_eqi (nI (qa T t)) (qc.2.2.1 _ (by omega)) ?_
    refine aw_iret d_QU_partsOf_74 rfl (by decide) (by decide) ?_
    first | exact q_i (by rw [prt_win (by omega) (by omega), (g5 (by omega) (by omega)).1]) hQ | exact q_n (by rw [prt_num (by omega) (by omega)]) hQ | exact q_n (by rw [prt_1 (by omega)]) hQ | exact q_n (by rw [prt_0 (by omega)]) hQ | exact q_n (by rw [prt_2 (by omega)]) hQ
  by_cases c3 : qk T t = 10
  · refine aw_tabN 75 (by omega) d_QU_partsOf_6 (by rw [c3]; exact Or.inr ⟨_, by decide, by decide, rfl, by decide⟩) ?_
    refine aw_iconst (v := nI 1) d_QU_partsOf_75 (by decide) ?_
    refine aw_iret d_QU_partsOf_76 rfl (by decide) (by decide) ?_
    first | exact q_i (by rw [prt_win (by omega) (by omega), (g5 (by omega) (by omega)).1]) hQ | exact q_n (by rw [prt_num (by omega) (by omega)]) hQ | exact q_n (by rw [prt_1 (by omega)]) hQ | exact q_n (by rw [prt_0 (by omega)]) hQ | exact q_n (by rw [prt_2 (by omega)]) hQ
  by_cases c4 : qk T t = 11
  · refine aw_tabN 77 (by omega) d_QU_partsOf_6 (by rw [c4]; exact Or.inr ⟨_, by decide, by decide, rfl, by decide⟩) ?_
    refine aw_iconst (v := nI 2) d_QU_partsOf_77 (by decide) ?_
    refine aw_iret d_QU_partsOf_78 rfl (by decide) (by decide) ?_
    first | exact q_i (by rw [prt_win (by omega) (by omega), (g5 (by omega) (by omega)).1]) hQ | exact q_n (by rw [prt_num (by omega) (by omega)]) hQ | exact q_n (by rw [prt_1 (by omega)]) hQ | exact q_n (by rw [prt_0 (by omega)]) hQ | exact q_n (by rw [prt_2 (by omega)]) hQ
  refine aw_tabN 79 (by omega) d_QU_partsOf_6 (Or.inl ⟨by omega, by decide⟩) ?_
  refine aw_iconst (v := nI 0) d_QU_partsOf_79 (by decide) ?_
  refine aw_iret d_QU_partsOf_80 rfl (by decide) (by decide) ?_
  first | exact q_i (by rw [prt_win (by omega) (by omega), (g5 (by omega) (by omega)).1]) hQ | exact q_n (by rw [prt_num (by omega) (by omega)]) hQ | exact q_n (by rw [prt_1 (by omega)]) hQ | exact q_n (by rw [prt_0 (by omega)]) hQ | exact q_n (by rw [prt_2 (by omega)]) hQ
set_option maxRecDepth 4000 in
theorem B_partsOf {l : Launch} {M : ab_M} {Q : ab_O → ab_M → Prop} {T : Qg} (wq : wQ T) (qr : iQR T M) {t : Nat} (ht : t < qn T) (hQ : Q (.inl (some (.int (nI (prt T t))))) M) : AW sys l ab_Zt k_MO_partsOf 0 0 0 [(0, .ref (57)), (1, .int (nI (t)))] [] M 0 0 Q := by
  have h24 := wq.1
  obtain ⟨g1, g2, g3, g4, g5, g6⟩ := wq.2.1 t ht
  refine aw_aload_n d_MO_partsOf_0 rfl 0 rfl ?_
  refine aw_get (ic := 57) (ci := 6) (k := 5) d_MO_partsOf_1 rfl rfl (by decide) rfl mw_780 rfl ?_
  refine aw_iload_n d_MO_partsOf_4 rfl 1 rfl ?_
  refine aw_ialdN d_MO_partsOf_5 rfl (by decide) (by omega) ?_
  refine aw_eqi (nI (qk T t)) (qr.2.1 _ (by omega)) ?_
  refine aw_istore_n (lv' := [(2, .int (nI (qk T t))), (0, .ref (57)), (1, .int (nI (t)))]) d_MO_partsOf_6 rfl (by decide) rfl ?_
  refine aw_iload_n d_MO_partsOf_7 rfl 0 rfl ?_
  refine aw_iconst (v := nI 2) d_MO_partsOf_8 (by decide) ?_
  refine aw_icmp_geN (tgt := 14) d_MO_partsOf_9 (by decide) (by omega) (by omega) (fun c1 => ?_) (fun c1 => ?_)
  · skip
    refine aw_iload_n d_MO_partsOf_14 rfl 0 rfl ?_
    refine aw_iconst (v := nI 4) d_MO_partsOf_15 (by decide) ?_
    refine aw_icmp_gtN (tgt := 29) d_MO_partsOf_16 (by decide) (by omega) (by omega) (fun c2 => ?_) (fun c2 => ?_)
    · skip
      refine aw_iload_n d_MO_partsOf_29 rfl 0 rfl ?_
      refine aw_bipush (v := nI 9) d_MO_partsOf_30 (by decide) ?_
      refine aw_icmp_gtN (tgt := 44) d_MO_partsOf_32 (by decide) (by omega) (by omega) (fun c3 => ?_) (fun c3 => ?_)
      · skip
        refine aw_iload_n d_MO_partsOf_44 rfl 0 rfl ?_
        refine aw_bipush (v := nI 10) d_MO_partsOf_45 (by decide) ?_
        refine aw_icmp_neN (tgt := 54) d_MO_partsOf_47 (by decide) (by omega) (by omega) (fun c4 => ?_) (fun c4 => ?_)
        · skip
          refine aw_iconst (v := nI 2) d_MO_partsOf_54 (by decide) ?_
          refine aw_iret d_MO_partsOf_55 rfl (by decide) (by decide) ?_
          first | (exfalso; omega) | exact q_i (by rw [prt_win (by omega) (by omega), (g5 (by omega) (by omega)).1]) hQ | exact q_n (by rw [prt_num (by omega) (by omega)]) hQ | exact q_n (by rw [prt_1 (by omega)]) hQ | exact q_n (by rw [prt_0 (by omega)]) hQ | exact q_n (by rw [prt_2 (by omega)]) hQ
        · skip
          refine aw_iconst (v := nI 1) d_MO_partsOf_50 (by decide) ?_
          refine aw_goto (tgt := 55) d_MO_partsOf_51 (by decide) ?_
          refine aw_iret d_MO_partsOf_55 rfl (by decide) (by decide) ?_
          first | (exfalso; omega) | exact q_i (by rw [prt_win (by omega) (by omega), (g5 (by omega) (by omega)).1]) hQ | exact q_n (by rw [prt_num (by omega) (by omega)]) hQ | exact q_n (by rw [prt_1 (by omega)]) hQ | exact q_n (by rw [prt_0 (by omega)]) hQ | exact q_n (by rw [prt_2 (by omega)]) hQ
      · skip
        refine aw_aload_n d_MO_partsOf_35 rfl 1 rfl ?_
        refine aw_get (ic := 57) (ci := 6) (k := 6) d_MO_partsOf_36 rfl rfl (by decide) rfl mw_781 rfl ?_
        refine aw_iload_n d_MO_partsOf_39 rfl 2 rfl ?_
        refine aw_ialdN d_MO_partsOf_40 rfl (by decide) (by omega) ?_
        refine aw_eqi (nI (qa T t)) (qr.2.2.1 _ (by omega)) ?_
        refine aw_goto (tgt := 55) d_MO_partsOf_41 (by decide) ?_
        refine aw_iret d_MO_partsOf_55 rfl (by decide) (by decide) ?_
        first | (exfalso; omega) | exact q_i (by rw [prt_win (by omega) (by omega), (g5 (by omega) (by omega)).1]) hQ | exact q_n (by rw [prt_num (by omega) (by omega)]) hQ | exact q_n (by rw [prt_1 (by omega)]) hQ | exact q_n (by rw [prt_0 (by omega)]) hQ | exact q_n (by rw [prt_2 (by omega)]) hQ
    · skip
      refine aw_aload_n d_MO_partsOf_19 rfl 1 rfl ?_
      refine aw_get (ic := 57) (ci := 6) (k := 7) d_MO_partsOf_20 rfl rfl (by decide) rfl mw_782 rfl ?_
      refine aw_iload_n d_MO_partsOf_23 rfl 2 rfl ?_
      refine aw_daldN d_MO_partsOf_24 rfl (by decide) (by omega) ?_
      refine aw_eqd (qw T t) (qr.2.2.2 _ (by omega)) ?_
      refine aw_d2i d_MO_partsOf_25 ?_
      refine aw_goto (tgt := 55) d_MO_partsOf_26 (by decide) ?_
      refine aw_iret d_MO_partsOf_55 rfl (by decide) (by decide) ?_
      first | (exfalso; omega) | exact q_i (by rw [prt_win (by omega) (by omega), (g5 (by omega) (by omega)).1]) hQ | exact q_n (by rw [prt_num (by omega) (by omega)]) hQ | exact q_n (by rw [prt_1 (by omega)]) hQ | exact q_n (by rw [prt_0 (by omega)]) hQ | exact q_n (by rw [prt_2 (by omega)]) hQ
  · skip
    refine aw_iconst (v := nI 0) d_MO_partsOf_12 (by decide) ?_
    refine aw_iret d_MO_partsOf_13 rfl (by decide) (by decide) ?_
    first | (exfalso; omega) | exact q_i (by rw [prt_win (by omega) (by omega), (g5 (by omega) (by omega)).1]) hQ | exact q_n (by rw [prt_num (by omega) (by omega)]) hQ | exact q_n (by rw [prt_1 (by omega)]) hQ | exact q_n (by rw [prt_0 (by omega)]) hQ | exact q_n (by rw [prt_2 (by omega)]) hQ
set_option maxRecDepth 4000 in
theorem A_QU_partAt_loop {l : Launch} {M : ab_M} {Q : ab_O → ab_M → Prop} {T : Qg} (wq : wQ T) (qc : iQC T M) (h0 : op T (qn T) = 0) {t n : Nat} (ht : t < qn T) (hn : n ≤ prt T t) (hQ : Q (.inl (some (.int (nI (pa T t n))))) M) : ∀ (k : Nat) (i : Nat), n - i = k → (hi : i ≤ n) → AW sys l ab_Zt k_QU_partAt 0 0 7 [(4, .int (nI (i))), (3, .int (nI (pa T t i))), (0, .ref (17)), (1, .int (nI (t))), (2, .int (nI (n)))] [] M 0 0 Q := by
  intro k
  induction k using Nat.strongRecOn with
  | ind k ih =>
    intro i hk hi
    have h24 := wq.1
    have hp4 := prt_le (wq.2.1 t ht)
    have hpa : i < prt T t → t < pa T t i ∧ pa T t i < qn T := fun h => pa_lt wq h0 ht h
    refine aw_iload d_QU_partAt_7 0 rfl ?_
    refine aw_iload_n d_QU_partAt_9 rfl 4 rfl ?_
    refine aw_icmp_geN (tgt := 26) d_QU_partAt_10 (by decide) (by omega) (by omega) (fun c1 => ?_) (fun c1 => ?_)
    · skip
      refine aw_iload_n d_QU_partAt_26 rfl 1 rfl ?_
      refine aw_iret d_QU_partAt_27 rfl (by decide) (by decide) ?_
      exact q_n (by rw [show i = n by omega]) hQ
    · skip
      refine aw_aload_n d_QU_partAt_13 rfl 2 rfl ?_
      refine aw_get (ic := 17) (ci := 2) (k := 3) d_QU_partAt_14 rfl rfl (by decide) rfl mw_95 rfl ?_
      refine aw_iload_n d_QU_partAt_17 rfl 1 rfl ?_
      refine aw_ialdN d_QU_partAt_18 rfl (by decide) (by omega) ?_
      refine aw_eqi (nI (en T (pa T t i))) (qc.2.2.2.2.2.2 h0 _ (by omega)) ?_
      refine aw_istore_n (lv' := [(3, .int (nI (en T (pa T t i)))), (4, .int (nI (i))), (0, .ref (17)), (1, .int (nI (t))), (2, .int (nI (n)))]) d_QU_partAt_19 rfl (by decide) rfl ?_
      refine aw_iinc (v := (nI (i + 1))) (lv' := [(4, .int (nI (i + 1))), (3, .int (nI (en T (pa T t i)))), (0, .ref (17)), (1, .int (nI (t))), (2, .int (nI (n)))]) d_QU_partAt_20 (j := 1) rfl (nI_add (i) 1) (by decide) rfl ?_
      refine aw_goto (tgt := 7) d_QU_partAt_23 (by decide) ?_
      exact ih _ (by omega) (i + 1) rfl (by omega)
set_option maxRecDepth 4000 in
theorem A_QU_partAt {l : Launch} {M : ab_M} {Q : ab_O → ab_M → Prop} {T : Qg} (wq : wQ T) (qc : iQC T M) (h0 : op T (qn T) = 0) {t n : Nat} (ht : t < qn T) (hn : n ≤ prt T t) (hQ : Q (.inl (some (.int (nI (pa T t n))))) M) : AW sys l ab_Zt k_QU_partAt 0 0 0 [(0, .ref (17)), (1, .int (nI (t))), (2, .int (nI (n)))] [] M 0 0 Q := by
  have h24 := wq.1
  refine aw_iload_n d_QU_partAt_0 rfl 1 rfl ?_
  refine aw_iconst (v := nI 1) d_QU_partAt_1 (by decide) ?_
  refine aw_iaddN d_QU_partAt_2 ?_
  refine aw_istore_n (lv' := [(3, .int (nI (t + 1))), (0, .ref (17)), (1, .int (nI (t))), (2, .int (nI (n)))]) d_QU_partAt_3 rfl (by decide) rfl ?_
  refine aw_iconst (v := nI 0) d_QU_partAt_4 (by decide) ?_
  refine aw_istore (lv' := [(4, .int (nI (0))), (3, .int (nI (t + 1))), (0, .ref (17)), (1, .int (nI (t))), (2, .int (nI (n)))]) d_QU_partAt_5 (by decide) rfl ?_
  exact A_QU_partAt_loop wq qc h0 ht hn hQ _ 0 rfl (by omega)
set_option maxRecDepth 4000 in
theorem B_open_loop {l : Launch} {M : ab_M} {Q : ab_O → ab_M → Prop} {T : Qg} (wq : wQ T) (qr : iQR T M) (hQ : Q (.inl (some (.int (nI (op T (qn T)))))) M) : ∀ (k : Nat) (t : Nat), 24 - t = k → (hp : t ≤ qn T) → AW sys l ab_Zt k_MO_open 1 22 4 [(2, .int (nI (t))), (1, .int (nI (op T t))), (0, .ref (57))] [] M 0 0 Q := by
  intro k
  induction k using Nat.strongRecOn with
  | ind k ih =>
    intro t hk hp
    have h24 := wq.1
    refine aw_iload_n d_MO_open_4 rfl 0 rfl ?_
    refine aw_aload_n d_MO_open_5 rfl 2 rfl ?_
    refine aw_get (ic := 57) (ci := 6) (k := 8) d_MO_open_6 rfl rfl (by decide) rfl mw_783 rfl ?_
    refine aw_eqi (nI (qn T)) qr.1 ?_
    refine aw_icmp_geN (tgt := 28) d_MO_open_9 (by decide) (by omega) (by omega) (fun c1 => ?_) (fun c1 => ?_)
    · skip
      refine aw_iload_n d_MO_open_28 rfl 1 rfl ?_
      refine aw_iret d_MO_open_29 rfl (by decide) (by decide) ?_
      exact q_n (by rw [show t = qn T by omega]) hQ
    · skip
      refine aw_iload_n d_MO_open_12 rfl 1 rfl ?_
      refine aw_aload_n d_MO_open_13 rfl 2 rfl ?_
      refine aw_iload_n d_MO_open_14 rfl 0 rfl ?_
      refine aw_callV (K' := k_MO_partsOf) (As := [.int (nI (t))]) (rest := [.int (nI (op T t))]) (b := 57) d_MO_open_15 rfl rfl rfl cs_MO_71 rfl (Nat.le_of_ble_eq_true rfl) (Nat.le_of_ble_eq_true rfl) (by decide) (by decide) (d' := 0) (w' := 0) (by decide) (by decide) ?_
      show AW _ _ _ _ _ _ _ [(0, .ref (57)), (1, .int (nI (t)))] _ _ _ _ _
      refine B_partsOf wq qr (by omega) ?_
      refine ab_go1 ?_
      refine aw_iconst (v := nI 1) d_MO_open_18 (by decide) ?_
      refine aw_isub d_MO_open_19 ?_
      refine aw_iadd d_MO_open_20 ?_
      refine aw_eqi (nI (op T (t + 1))) (op_nI (wq.2.2.1 t (by omega))) ?_
      refine aw_istore_n (lv' := [(1, .int (nI (op T (t + 1)))), (2, .int (nI (t))), (0, .ref (57))]) d_MO_open_21 rfl (by decide) rfl ?_
      refine aw_iinc (v := (nI (t + 1))) (lv' := [(2, .int (nI (t + 1))), (1, .int (nI (op T (t + 1)))), (0, .ref (57))]) d_MO_open_22 (j := 1) rfl (nI_add (t) 1) (by decide) rfl ?_
      refine aw_goto (tgt := 4) d_MO_open_25 (by decide) ?_
      exact ih _ (by omega) (t + 1) rfl (by omega)
set_option maxRecDepth 4000 in
theorem B_open {l : Launch} {M : ab_M} {Q : ab_O → ab_M → Prop} {T : Qg} (wq : wQ T) (qr : iQR T M) (hQ : Q (.inl (some (.int (nI (op T (qn T)))))) M) : AW sys l ab_Zt k_MO_open 1 22 0 [(0, .ref (57))] [] M 0 0 Q := by
  have h24 := wq.1
  refine aw_iconst (v := nI 1) d_MO_open_0 (by decide) ?_
  refine aw_istore_n (lv' := [(1, .int (nI (1))), (0, .ref (57))]) d_MO_open_1 rfl (by decide) rfl ?_
  refine aw_iconst (v := nI 0) d_MO_open_2 (by decide) ?_
  refine aw_istore_n (lv' := [(2, .int (nI (0))), (1, .int (nI (1))), (0, .ref (57))]) d_MO_open_3 rfl (by decide) rfl ?_
  exact B_open_loop wq qr hQ _ 0 rfl (by omega)
set_option maxRecDepth 4000 in
theorem B_wants_loop {l : Launch} {M : ab_M} {Q : ab_O → ab_M → Prop} {T : Qg} (wq : wQ T) (qr : iQR T M) (hQ : Q (.inl (some (.int (nI (bN (decide (0 < tw T (qn T)))))))) M) : ∀ (k : Nat) (j : Nat), j = k → (hj : j ≤ qn T) → (hb : ∀ i, i < qn T - j → ¬ (2 ≤ qk T (qn T - 1 - i) ∧ qk T (qn T - 1 - i) ≤ 4)) → AW sys l ab_Zt k_MO_wantsTerm 1 22 7 [(1, .int (nI (j) - nI 1)), (0, .ref (57))] [] M 0 0 Q := by
  intro k
  induction k using Nat.strongRecOn with
  | ind k ih =>
    intro j hk hj hb
    have h24 := wq.1
    refine aw_iload_n d_MO_wantsTerm_7 rfl 0 rfl ?_
    refine aw_if_ltM (tgt := 69) d_MO_wantsTerm_8 (by decide) (fun c1 => ?_) (fun c1 => ?_)
    · skip
      refine aw_iconst (v := nI 0) d_MO_wantsTerm_69 (by decide) ?_
      refine aw_zret (Or.inl rfl) d_MO_wantsTerm_70 rfl (by decide) (by decide) ?_
      exact q_b (c := false) (by have e1 := tw_back (qn T) (qn T) (by omega) (fun z hz => hb z (by omega)); rw [Nat.sub_self] at e1; rw [decide_eq_false (by simp only [tw] at e1; omega)]) rfl hQ
    · skip
      obtain ⟨jp, rfl⟩ : ∃ jp, j = jp + 1 := ⟨j - 1, by omega⟩
      rw [nI_m1 jp]
      have hg := wq.2.1 jp (by omega)
      have hk11 := hg.1
      have hp4 := prt_le hg
      refine aw_iload_n d_MO_wantsTerm_11 rfl 0 rfl ?_
      refine aw_aload_n d_MO_wantsTerm_12 rfl 1 rfl ?_
      refine aw_get (ic := 57) (ci := 6) (k := 8) d_MO_wantsTerm_13 rfl rfl (by decide) rfl mw_783 rfl ?_
      refine aw_eqi (nI (qn T)) qr.1 ?_
      refine aw_iconst (v := nI 4) d_MO_wantsTerm_16 (by decide) ?_
      refine aw_isub d_MO_wantsTerm_17 ?_
      refine aw_icmp_lt (tgt := 69) d_MO_wantsTerm_18 (by decide) (fun c2 => ?_) (fun c2 => ?_)
      · skip
        refine aw_iconst (v := nI 0) d_MO_wantsTerm_69 (by decide) ?_
        refine aw_zret (Or.inl rfl) d_MO_wantsTerm_70 rfl (by decide) (by decide) ?_
        have c9 := (sub4_lt jp (by omega) (qn T) (by omega)).mp c2
        have e1 := tw_back (qn T - 1 - jp) (qn T) (by omega) (fun z hz => hb z (by omega))
        have e2 := tw_le (T := T) (qn T - (qn T - 1 - jp)) (fun z hz => wq.2.1 z (by omega))
        exact q_b (c := false) (by rw [decide_eq_false (by omega)]) rfl hQ
      · skip
        refine aw_aload_n d_MO_wantsTerm_21 rfl 1 rfl ?_
        refine aw_get (ic := 57) (ci := 6) (k := 5) d_MO_wantsTerm_22 rfl rfl (by decide) rfl mw_780 rfl ?_
        refine aw_iload_n d_MO_wantsTerm_25 rfl 0 rfl ?_
        refine aw_ialdN d_MO_wantsTerm_26 rfl (by decide) (by omega) ?_
        refine aw_eqi (nI (qk T jp)) (qr.2.1 _ (by omega)) ?_
        refine aw_iconst (v := nI 2) d_MO_wantsTerm_27 (by decide) ?_
        refine aw_icmp_ltN (tgt := 63) d_MO_wantsTerm_28 (by decide) (by omega) (by omega) (fun c3 => ?_) (fun c3 => ?_)
        · skip
          refine aw_iinc (v := (nI (jp) - nI 1)) (lv' := [(1, .int (nI (jp) - nI 1)), (0, .ref (57))]) d_MO_wantsTerm_63 (j := 0) rfl (nI_dm (jp)) (by decide) rfl ?_
          refine aw_goto (tgt := 7) d_MO_wantsTerm_66 (by decide) ?_
          exact ih _ (by omega) jp rfl (by omega) (fun z hz => by rcases Nat.lt_or_ge z (qn T - 1 - jp) with e | e; exact hb z (by omega); rw [show qn T - 1 - z = jp by omega]; omega)
        · skip
          refine aw_aload_n d_MO_wantsTerm_31 rfl 1 rfl ?_
          refine aw_get (ic := 57) (ci := 6) (k := 5) d_MO_wantsTerm_32 rfl rfl (by decide) rfl mw_780 rfl ?_
          refine aw_iload_n d_MO_wantsTerm_35 rfl 0 rfl ?_
          refine aw_ialdN d_MO_wantsTerm_36 rfl (by decide) (by omega) ?_
          refine aw_eqi (nI (qk T jp)) (qr.2.1 _ (by omega)) ?_
          refine aw_iconst (v := nI 4) d_MO_wantsTerm_37 (by decide) ?_
          refine aw_icmp_gtN (tgt := 63) d_MO_wantsTerm_38 (by decide) (by omega) (by omega) (fun c4 => ?_) (fun c4 => ?_)
          · skip
            refine aw_iinc (v := (nI (jp) - nI 1)) (lv' := [(1, .int (nI (jp) - nI 1)), (0, .ref (57))]) d_MO_wantsTerm_63 (j := 0) rfl (nI_dm (jp)) (by decide) rfl ?_
            refine aw_goto (tgt := 7) d_MO_wantsTerm_66 (by decide) ?_
            exact ih _ (by omega) jp rfl (by omega) (fun z hz => by rcases Nat.lt_or_ge z (qn T - 1 - jp) with e | e; exact hb z (by omega); rw [show qn T - 1 - z = jp by omega]; omega)
          · skip
            refine aw_aload_n d_MO_wantsTerm_41 rfl 1 rfl ?_
            refine aw_get (ic := 57) (ci := 6) (k := 8) d_MO_wantsTerm_42 rfl rfl (by decide) rfl mw_783 rfl ?_
            refine aw_eqi (nI (qn T)) qr.1 ?_
            refine aw_iconst (v := nI 1) d_MO_wantsTerm_45 (by decide) ?_
            refine aw_isubN d_MO_wantsTerm_46 (by omega) ?_
            refine aw_iload_n d_MO_wantsTerm_47 rfl 0 rfl ?_
            refine aw_isubN d_MO_wantsTerm_48 (by omega) ?_
            refine aw_aload_n d_MO_wantsTerm_49 rfl 1 rfl ?_
            refine aw_iload_n d_MO_wantsTerm_50 rfl 0 rfl ?_
            refine aw_callV (K' := k_MO_partsOf) (As := [.int (nI (jp))]) (rest := [.int (nI ((qn T - 1) - jp))]) (b := 57) d_MO_wantsTerm_51 rfl rfl rfl cs_MO_71 rfl (Nat.le_of_ble_eq_true rfl) (Nat.le_of_ble_eq_true rfl) (by decide) (by decide) (d' := 0) (w' := 0) (by decide) (by decide) ?_
            show AW _ _ _ _ _ _ _ [(0, .ref (57)), (1, .int (nI (jp)))] _ _ _ _ _
            refine B_partsOf wq qr (by omega) ?_
            refine ab_go1 ?_
            refine aw_icmp_geN (tgt := 61) d_MO_wantsTerm_54 (by decide) (by omega) (by omega) (fun c5 => ?_) (fun c5 => ?_)
            · skip
              refine aw_iconst (v := nI 0) d_MO_wantsTerm_61 (by decide) ?_
              refine aw_zret (Or.inl rfl) d_MO_wantsTerm_62 rfl (by decide) (by decide) ?_
              exact q_b (c := false) (by have e1 := tw_back (qn T - 1 - jp) (qn T) (by omega) (fun z hz => hb z (by omega)); rw [show qn T - (qn T - 1 - jp) = jp + 1 by omega, tw_win (by omega)] at e1; rw [decide_eq_false (by omega)]) rfl hQ
            · skip
              refine aw_iconst (v := nI 1) d_MO_wantsTerm_57 (by decide) ?_
              refine aw_goto (tgt := 62) d_MO_wantsTerm_58 (by decide) ?_
              refine aw_zret (Or.inr rfl) d_MO_wantsTerm_62 rfl (by decide) (by decide) ?_
              exact q_b (c := true) (by have e1 := tw_back (qn T - 1 - jp) (qn T) (by omega) (fun z hz => hb z (by omega)); rw [show qn T - (qn T - 1 - jp) = jp + 1 by omega, tw_win (by omega)] at e1; rw [decide_eq_true (by omega)]) rfl hQ
set_option maxRecDepth 4000 in
theorem B_wantsTerm {l : Launch} {M : ab_M} {Q : ab_O → ab_M → Prop} {T : Qg} (wq : wQ T) (qr : iQR T M) (hQ : Q (.inl (some (.int (nI (bN (decide (0 < tw T (qn T)))))))) M) : AW sys l ab_Zt k_MO_wantsTerm 1 22 0 [(0, .ref (57))] [] M 0 0 Q := by
  have h24 := wq.1
  refine aw_aload_n d_MO_wantsTerm_0 rfl 0 rfl ?_
  refine aw_get (ic := 57) (ci := 6) (k := 8) d_MO_wantsTerm_1 rfl rfl (by decide) rfl mw_783 rfl ?_
  refine aw_eqi (nI (qn T)) qr.1 ?_
  refine aw_iconst (v := nI 1) d_MO_wantsTerm_4 (by decide) ?_
  refine aw_isub d_MO_wantsTerm_5 ?_
  refine aw_istore_n (lv' := [(1, .int (nI (qn T) - nI 1)), (0, .ref (57))]) d_MO_wantsTerm_6 rfl (by decide) rfl ?_
  exact B_wants_loop wq qr hQ _ _ rfl (Nat.le_refl _) (fun i hi => by omega)
