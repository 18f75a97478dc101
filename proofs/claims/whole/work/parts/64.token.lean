/-! a TOKEN: class and reference (rows laid by gen/m13.py) -/
theorem me_step {T : Qg} {jp : Nat} {M : ab_M} (hj : jp + 1 ≤ qn T) (hb : ∀ i, jp + 1 ≤ i → i < qn T → M.1 21 i = nI (eb T (qn T - (jp + 1)) i)) : ∀ i, jp ≤ i → i < qn T → (ab_sI M 21 jp (nI (itE (eb T (qn T - (jp + 1))) (prt T jp) (jp + 1)))).1 21 i = nI (eb T (qn T - jp) i) := by
  intro i h1 h2
  rw [show qn T - jp = qn T - (jp + 1) + 1 by omega]
  by_cases e : i = jp
  · subst e
    rw [sI_hit]
    show _ = nI (if _ then _ else _)
    rw [if_pos (by omega)]
  · rw [sI_ne (by omega), hb i (by omega) h2]
    show _ = nI (if _ then _ else _)
    rw [if_neg (by omega)]
def frE (M M' : ab_M) : Prop := (∀ a i, a ≠ 21 → M'.1 a i = M.1 a i) ∧ M'.2 = M.2

set_option maxRecDepth 4000 in
theorem A_isNumberOf {l : Launch} {M : ab_M} {Q : ab_O → ab_M → Prop} {x y : Int32} (hT : nmP x.toInt y.toInt → Q (.inl (some (.int (nI 1)))) M) (hF : ¬ nmP x.toInt y.toInt → Q (.inl (some (.int (nI 0)))) M) : AW sys l ab_Zt k_BF_isNumberOf 1 20 0 [(0, .int (x)), (1, .int (y))] [] M 0 0 Q := by
  refine aw_iload_n d_BF_isNumberOf_0 rfl 0 rfl ?_
  by_cases c1 : (x).toInt = 0 ∨ (x).toInt = 1
  · refine aw_tabI 64 d_BF_isNumberOf_1 (by rcases c1 with h | h <;> rw [h] <;> exact Or.inr ⟨_, by decide, by decide, rfl, by decide⟩) ?_
    refine aw_iload_n d_BF_isNumberOf_64 rfl 1 rfl ?_
    refine aw_callS (K' := k_BF_isWord) (As := [.int (y)]) (rest := []) d_BF_isNumberOf_65 rfl cs_BF_68 rfl (Nat.le_of_ble_eq_true rfl) (Nat.le_of_ble_eq_true rfl) (by decide) (by decide) (d' := 0) (w' := 0) (by decide) (by decide) ?_
    show AW _ _ _ _ _ _ _ [(0, .int (y))] _ _ _ _ _
    refine aw_iload_n d_BF_isWord_0 rfl 0 rfl ?_
    refine az_lt rfl (tgt := 14) d_BF_isWord_1 (by decide) (fun c2 => ?_) (fun c2 => ?_)
    · skip
      refine aw_iconst (v := nI 0) d_BF_isWord_14 (by decide) ?_
      refine aw_zret (Or.inl rfl) d_BF_isWord_15 rfl (by decide) (by decide) (ab_go1 ?_)
      refine aw_zret (Or.inl rfl) d_BF_isNumberOf_68 rfl (by decide) (by decide) ?_
      exact hF (by unfold nmP; omega)
    · skip
      refine aw_iload_n d_BF_isWord_4 rfl 0 rfl ?_
      refine aw_bipush (v := nI 16) d_BF_isWord_5 (by decide) ?_
      refine at_ge rfl (nI_toInt (by omega)) (tgt := 14) d_BF_isWord_7 (by decide) (fun c3 => ?_) (fun c3 => ?_)
      · skip
        refine aw_iconst (v := nI 0) d_BF_isWord_14 (by decide) ?_
        refine aw_zret (Or.inl rfl) d_BF_isWord_15 rfl (by decide) (by decide) (ab_go1 ?_)
        refine aw_zret (Or.inl rfl) d_BF_isNumberOf_68 rfl (by decide) (by decide) ?_
        exact hF (by unfold nmP; omega)
      · skip
        refine aw_iconst (v := nI 1) d_BF_isWord_10 (by decide) ?_
        refine aw_goto (tgt := 15) d_BF_isWord_11 (by decide) ?_
        refine aw_zret (Or.inr rfl) d_BF_isWord_15 rfl (by decide) (by decide) (ab_go1 ?_)
        refine aw_zret (Or.inr rfl) d_BF_isNumberOf_68 rfl (by decide) (by decide) ?_
        exact hT (by unfold nmP; omega)
  by_cases c4 : (x).toInt = 2 ∨ (x).toInt = 3
  · refine aw_tabI 69 d_BF_isNumberOf_1 (by rcases c4 with h | h <;> rw [h] <;> exact Or.inr ⟨_, by decide, by decide, rfl, by decide⟩) ?_
    refine aw_iload_n d_BF_isNumberOf_69 rfl 1 rfl ?_
    refine aw_iconst (v := nI 1) d_BF_isNumberOf_70 (by decide) ?_
    refine at_lt rfl (nI_toInt (by omega)) (tgt := 84) d_BF_isNumberOf_71 (by decide) (fun c5 => ?_) (fun c5 => ?_)
    · skip
      refine aw_iconst (v := nI 0) d_BF_isNumberOf_84 (by decide) ?_
      refine aw_zret (Or.inl rfl) d_BF_isNumberOf_85 rfl (by decide) (by decide) ?_
      exact hF (by unfold nmP; omega)
    · skip
      refine aw_iload_n d_BF_isNumberOf_74 rfl 1 rfl ?_
      refine aw_bipush (v := nI 24) d_BF_isNumberOf_75 (by decide) ?_
      refine at_gt rfl (nI_toInt (by omega)) (tgt := 84) d_BF_isNumberOf_77 (by decide) (fun c6 => ?_) (fun c6 => ?_)
      · skip
        refine aw_iconst (v := nI 0) d_BF_isNumberOf_84 (by decide) ?_
        refine aw_zret (Or.inl rfl) d_BF_isNumberOf_85 rfl (by decide) (by decide) ?_
        exact hF (by unfold nmP; omega)
      · skip
        refine aw_iconst (v := nI 1) d_BF_isNumberOf_80 (by decide) ?_
        refine aw_goto (tgt := 85) d_BF_isNumberOf_81 (by decide) ?_
        refine aw_zret (Or.inr rfl) d_BF_isNumberOf_85 rfl (by decide) (by decide) ?_
        exact hT (by unfold nmP; omega)
  by_cases c7 : (x).toInt = 4 ∨ (x).toInt = 10 ∨ (x).toInt = 11
  · refine aw_tabI 102 d_BF_isNumberOf_1 (by rcases c7 with h | h | h <;> rw [h] <;> exact Or.inr ⟨_, by decide, by decide, rfl, by decide⟩) ?_
    refine aw_iconst (v := nI 1) d_BF_isNumberOf_102 (by decide) ?_
    refine aw_zret (Or.inr rfl) d_BF_isNumberOf_103 rfl (by decide) (by decide) ?_
    exact hT (by unfold nmP; omega)
  by_cases c8 : (x).toInt = 5 ∨ (x).toInt = 6 ∨ (x).toInt = 7 ∨ (x).toInt = 8 ∨ (x).toInt = 9
  · refine aw_tabI 86 d_BF_isNumberOf_1 (by rcases c8 with h | h | h | h | h <;> rw [h] <;> exact Or.inr ⟨_, by decide, by decide, rfl, by decide⟩) ?_
    refine aw_iload_n d_BF_isNumberOf_86 rfl 1 rfl ?_
    refine aw_iconst (v := nI 1) d_BF_isNumberOf_87 (by decide) ?_
    refine at_lt rfl (nI_toInt (by omega)) (tgt := 100) d_BF_isNumberOf_88 (by decide) (fun c9 => ?_) (fun c9 => ?_)
    · skip
      refine aw_iconst (v := nI 0) d_BF_isNumberOf_100 (by decide) ?_
      refine aw_zret (Or.inl rfl) d_BF_isNumberOf_101 rfl (by decide) (by decide) ?_
      exact hF (by unfold nmP; omega)
    · skip
      refine aw_iload_n d_BF_isNumberOf_91 rfl 1 rfl ?_
      refine aw_iconst (v := nI 4) d_BF_isNumberOf_92 (by decide) ?_
      refine at_gt rfl (nI_toInt (by omega)) (tgt := 100) d_BF_isNumberOf_93 (by decide) (fun c10 => ?_) (fun c10 => ?_)
      · skip
        refine aw_iconst (v := nI 0) d_BF_isNumberOf_100 (by decide) ?_
        refine aw_zret (Or.inl rfl) d_BF_isNumberOf_101 rfl (by decide) (by decide) ?_
        exact hF (by unfold nmP; omega)
      · skip
        refine aw_iconst (v := nI 1) d_BF_isNumberOf_96 (by decide) ?_
        refine aw_goto (tgt := 101) d_BF_isNumberOf_97 (by decide) ?_
        refine aw_zret (Or.inr rfl) d_BF_isNumberOf_101 rfl (by decide) (by decide) ?_
        exact hT (by unfold nmP; omega)
  refine aw_tabI 104 d_BF_isNumberOf_1 (Or.inl ⟨by omega, by decide⟩) ?_
  refine aw_iconst (v := nI 0) d_BF_isNumberOf_104 (by decide) ?_
  refine aw_zret (Or.inl rfl) d_BF_isNumberOf_105 rfl (by decide) (by decide) ?_
  exact hF (by unfold nmP; omega)
set_option maxRecDepth 4000 in
theorem A_isWeightOf {l : Launch} {M : ab_M} {Q : ab_O → ab_M → Prop} {x : Int32} {w : UInt64} (fw : fF w) (hT : wtP x.toInt (fz w) → Q (.inl (some (.int (nI 1)))) M) (hF : ¬ wtP x.toInt (fz w) → Q (.inl (some (.int (nI 0)))) M) : AW sys l ab_Zt k_BF_isWeightOf 1 23 0 [(0, .int (x)), (1, .double (w))] [] M 0 0 Q := by
  have e1 := fz_one
  have e2 := fz_2
  have e3 := fz_3
  have e4 := fz_4
  have e5 := fz_100
  have e0 := fz_zero
  have ep := f1_pos
  refine aw_iload_n d_BF_isWeightOf_0 rfl 0 rfl ?_
  refine aw_callS (K' := k_BF_isWindow) (As := [.int (x)]) (rest := []) d_BF_isWeightOf_1 rfl cs_BF_242 rfl (Nat.le_of_ble_eq_true rfl) (Nat.le_of_ble_eq_true rfl) (by decide) (by decide) (d' := 0) (w' := 0) (by decide) (by decide) ?_
  show AW _ _ _ _ _ _ _ [(0, .int (x))] _ _ _ _ _
  refine aw_iload_n d_BF_isWindow_0 rfl 0 rfl ?_
  refine aw_iconst (v := nI 2) d_BF_isWindow_1 (by decide) ?_
  refine at_lt rfl (nI_toInt (by omega)) (tgt := 14) d_BF_isWindow_2 (by decide) (fun c1 => ?_) (fun c1 => ?_)
  · skip
    refine aw_iconst (v := nI 0) d_BF_isWindow_14 (by decide) ?_
    refine aw_zret (Or.inl rfl) d_BF_isWindow_15 rfl (by decide) (by decide) (ab_go1 ?_)
    refine aw_if_eqN (tgt := 43) d_BF_isWeightOf_4 (by decide) (by omega) (fun c2 => ?_) (fun c2 => ?_)
    · skip
      refine aw_dload_n d_BF_isWeightOf_43 rfl 1 rfl ?_
      refine aw_ldc2d (v := 4636737291354636288) d_BF_isWeightOf_44 mw_356 ?_
      refine aw_callS (K' := k_BF_isWithin) (As := [.double (w), .double ((4636737291354636288 : UInt64))]) (rest := []) d_BF_isWeightOf_47 rfl cs_BF_86 rfl (Nat.le_of_ble_eq_true rfl) (Nat.le_of_ble_eq_true rfl) (by decide) (by decide) (d' := 0) (w' := 0) (by decide) (by decide) ?_
      show AW _ _ _ _ _ _ _ [(0, .double (w)), (2, .double ((4636737291354636288 : UInt64)))] _ _ _ _ _
      refine aw_dload_n d_BF_isWithin_0 rfl 0 rfl ?_
      refine aw_dconst0 d_BF_isWithin_1 ?_
      refine aw_dcmp d_BF_isWithin_2 ?_
      refine ad_le fw.n fF_zero.n d_BF_isWithin_3 (tgt := 16) (by decide) (fun c3 => ?_) (fun c3 => ?_)
      · skip
        refine aw_iconst (v := nI 0) d_BF_isWithin_16 (by decide) ?_
        refine aw_zret (Or.inl rfl) d_BF_isWithin_17 rfl (by decide) (by decide) (ab_go1 ?_)
        refine aw_zret (Or.inl rfl) d_BF_isWeightOf_50 rfl (by decide) (by decide) ?_
        exact hF (by unfold wtP; omega)
      · skip
        refine aw_dload_n d_BF_isWithin_6 rfl 0 rfl ?_
        refine aw_dload_n d_BF_isWithin_7 rfl 1 rfl ?_
        refine aw_dcmp d_BF_isWithin_8 ?_
        refine ad_gt fw.n fF_100.n d_BF_isWithin_9 (tgt := 16) (by decide) (fun c4 => ?_) (fun c4 => ?_)
        · skip
          refine aw_iconst (v := nI 0) d_BF_isWithin_16 (by decide) ?_
          refine aw_zret (Or.inl rfl) d_BF_isWithin_17 rfl (by decide) (by decide) (ab_go1 ?_)
          refine aw_zret (Or.inl rfl) d_BF_isWeightOf_50 rfl (by decide) (by decide) ?_
          exact hF (by unfold wtP; omega)
        · skip
          refine aw_iconst (v := nI 1) d_BF_isWithin_12 (by decide) ?_
          refine aw_goto (tgt := 17) d_BF_isWithin_13 (by decide) ?_
          refine aw_zret (Or.inr rfl) d_BF_isWithin_17 rfl (by decide) (by decide) (ab_go1 ?_)
          refine aw_zret (Or.inr rfl) d_BF_isWeightOf_50 rfl (by decide) (by decide) ?_
          exact hT (by unfold wtP; omega)
    · skip
      exact absurd c2 (by decide)
  · skip
    refine aw_iload_n d_BF_isWindow_5 rfl 0 rfl ?_
    refine aw_iconst (v := nI 4) d_BF_isWindow_6 (by decide) ?_
    refine at_gt rfl (nI_toInt (by omega)) (tgt := 14) d_BF_isWindow_7 (by decide) (fun c5 => ?_) (fun c5 => ?_)
    · skip
      refine aw_iconst (v := nI 0) d_BF_isWindow_14 (by decide) ?_
      refine aw_zret (Or.inl rfl) d_BF_isWindow_15 rfl (by decide) (by decide) (ab_go1 ?_)
      refine aw_if_eqN (tgt := 43) d_BF_isWeightOf_4 (by decide) (by omega) (fun c6 => ?_) (fun c6 => ?_)
      · skip
        refine aw_dload_n d_BF_isWeightOf_43 rfl 1 rfl ?_
        refine aw_ldc2d (v := 4636737291354636288) d_BF_isWeightOf_44 mw_356 ?_
        refine aw_callS (K' := k_BF_isWithin) (As := [.double (w), .double ((4636737291354636288 : UInt64))]) (rest := []) d_BF_isWeightOf_47 rfl cs_BF_86 rfl (Nat.le_of_ble_eq_true rfl) (Nat.le_of_ble_eq_true rfl) (by decide) (by decide) (d' := 0) (w' := 0) (by decide) (by decide) ?_
        show AW _ _ _ _ _ _ _ [(0, .double (w)), (2, .double ((4636737291354636288 : UInt64)))] _ _ _ _ _
        refine aw_dload_n d_BF_isWithin_0 rfl 0 rfl ?_
        refine aw_dconst0 d_BF_isWithin_1 ?_
        refine aw_dcmp d_BF_isWithin_2 ?_
        refine ad_le fw.n fF_zero.n d_BF_isWithin_3 (tgt := 16) (by decide) (fun c7 => ?_) (fun c7 => ?_)
        · skip
          refine aw_iconst (v := nI 0) d_BF_isWithin_16 (by decide) ?_
          refine aw_zret (Or.inl rfl) d_BF_isWithin_17 rfl (by decide) (by decide) (ab_go1 ?_)
          refine aw_zret (Or.inl rfl) d_BF_isWeightOf_50 rfl (by decide) (by decide) ?_
          exact hF (by unfold wtP; omega)
        · skip
          refine aw_dload_n d_BF_isWithin_6 rfl 0 rfl ?_
          refine aw_dload_n d_BF_isWithin_7 rfl 1 rfl ?_
          refine aw_dcmp d_BF_isWithin_8 ?_
          refine ad_gt fw.n fF_100.n d_BF_isWithin_9 (tgt := 16) (by decide) (fun c8 => ?_) (fun c8 => ?_)
          · skip
            refine aw_iconst (v := nI 0) d_BF_isWithin_16 (by decide) ?_
            refine aw_zret (Or.inl rfl) d_BF_isWithin_17 rfl (by decide) (by decide) (ab_go1 ?_)
            refine aw_zret (Or.inl rfl) d_BF_isWeightOf_50 rfl (by decide) (by decide) ?_
            exact hF (by unfold wtP; omega)
          · skip
            refine aw_iconst (v := nI 1) d_BF_isWithin_12 (by decide) ?_
            refine aw_goto (tgt := 17) d_BF_isWithin_13 (by decide) ?_
            refine aw_zret (Or.inr rfl) d_BF_isWithin_17 rfl (by decide) (by decide) (ab_go1 ?_)
            refine aw_zret (Or.inr rfl) d_BF_isWeightOf_50 rfl (by decide) (by decide) ?_
            exact hT (by unfold wtP; omega)
      · skip
        exact absurd c6 (by decide)
    · skip
      refine aw_iconst (v := nI 1) d_BF_isWindow_10 (by decide) ?_
      refine aw_goto (tgt := 15) d_BF_isWindow_11 (by decide) ?_
      refine aw_zret (Or.inr rfl) d_BF_isWindow_15 rfl (by decide) (by decide) (ab_go1 ?_)
      refine aw_if_eqN (tgt := 43) d_BF_isWeightOf_4 (by decide) (by omega) (fun c9 => ?_) (fun c9 => ?_)
      · skip
        exact absurd c9 (by decide)
      · skip
        refine aw_dload_n d_BF_isWeightOf_7 rfl 1 rfl ?_
        refine aw_dconst1 d_BF_isWeightOf_8 ?_
        refine aw_dcmp d_BF_isWeightOf_9 ?_
        refine ad_eq fw.n fF_one.n d_BF_isWeightOf_10 (tgt := 37) (by decide) (fun c10 => ?_) (fun c10 => ?_)
        · skip
          refine aw_iconst (v := nI 1) d_BF_isWeightOf_37 (by decide) ?_
          refine aw_goto (tgt := 42) d_BF_isWeightOf_38 (by decide) ?_
          refine aw_zret (Or.inr rfl) d_BF_isWeightOf_42 rfl (by decide) (by decide) ?_
          exact hT (by unfold wtP; omega)
        · skip
          refine aw_dload_n d_BF_isWeightOf_13 rfl 1 rfl ?_
          refine aw_ldc2d (v := 4611686018427387904) d_BF_isWeightOf_14 mw_383 ?_
          refine aw_dcmp d_BF_isWeightOf_17 ?_
          refine ad_eq fw.n fF_2.n d_BF_isWeightOf_18 (tgt := 37) (by decide) (fun c11 => ?_) (fun c11 => ?_)
          · skip
            refine aw_iconst (v := nI 1) d_BF_isWeightOf_37 (by decide) ?_
            refine aw_goto (tgt := 42) d_BF_isWeightOf_38 (by decide) ?_
            refine aw_zret (Or.inr rfl) d_BF_isWeightOf_42 rfl (by decide) (by decide) ?_
            exact hT (by unfold wtP; omega)
          · skip
            refine aw_dload_n d_BF_isWeightOf_21 rfl 1 rfl ?_
            refine aw_ldc2d (v := 4613937818241073152) d_BF_isWeightOf_22 mw_384 ?_
            refine aw_dcmp d_BF_isWeightOf_25 ?_
            refine ad_eq fw.n fF_3.n d_BF_isWeightOf_26 (tgt := 37) (by decide) (fun c12 => ?_) (fun c12 => ?_)
            · skip
              refine aw_iconst (v := nI 1) d_BF_isWeightOf_37 (by decide) ?_
              refine aw_goto (tgt := 42) d_BF_isWeightOf_38 (by decide) ?_
              refine aw_zret (Or.inr rfl) d_BF_isWeightOf_42 rfl (by decide) (by decide) ?_
              exact hT (by unfold wtP; omega)
            · skip
              refine aw_dload_n d_BF_isWeightOf_29 rfl 1 rfl ?_
              refine aw_ldc2d (v := 4616189618054758400) d_BF_isWeightOf_30 mw_385 ?_
              refine aw_dcmp d_BF_isWeightOf_33 ?_
              refine ad_ne fw.n fF_4.n d_BF_isWeightOf_34 (tgt := 41) (by decide) (fun c13 => ?_) (fun c13 => ?_)
              · skip
                refine aw_iconst (v := nI 0) d_BF_isWeightOf_41 (by decide) ?_
                refine aw_zret (Or.inl rfl) d_BF_isWeightOf_42 rfl (by decide) (by decide) ?_
                exact hF (by unfold wtP; omega)
              · skip
                refine aw_iconst (v := nI 1) d_BF_isWeightOf_37 (by decide) ?_
                refine aw_goto (tgt := 42) d_BF_isWeightOf_38 (by decide) ?_
                refine aw_zret (Or.inr rfl) d_BF_isWeightOf_42 rfl (by decide) (by decide) ?_
                exact hT (by unfold wtP; omega)
set_option maxRecDepth 4000 in
theorem B_isGood {l : Launch} {M : ab_M} {Q : ab_O → ab_M → Prop} {x y : Int32} {w : UInt64} (fw : fF w) (hT : nmP x.toInt y.toInt ∧ wtP x.toInt (fz w) → Q (.inl (some (.int (nI 1)))) M) (hF : ¬ (nmP x.toInt y.toInt ∧ wtP x.toInt (fz w)) → Q (.inl (some (.int (nI 0)))) M) : AW sys l ab_Zt k_MO_isGood 1 22 0 [(0, .int (x)), (1, .int (y)), (2, .double (w))] [] M 0 0 Q := by
  have e1 := fz_one
  have e2 := fz_2
  have e3 := fz_3
  have e4 := fz_4
  have e5 := fz_100
  have e0 := fz_zero
  have ep := f1_pos
  refine aw_iload_n d_MO_isGood_0 rfl 0 rfl ?_
  refine aw_iconst (v := nI 0) d_MO_isGood_1 (by decide) ?_
  refine aw_bipush (v := nI 11) d_MO_isGood_2 (by decide) ?_
  refine aw_callS (K' := k_MO_in) (As := [.int (x), .int (nI (0)), .int (nI (11))]) (rest := []) d_MO_isGood_4 rfl cs_MO_54 rfl (Nat.le_of_ble_eq_true rfl) (Nat.le_of_ble_eq_true rfl) (by decide) (by decide) (d' := 0) (w' := 0) (by decide) (by decide) ?_
  show AW _ _ _ _ _ _ _ [(0, .int (x)), (1, .int (nI (0))), (2, .int (nI (11)))] _ _ _ _ _
  refine aw_iload_n d_MO_in_0 rfl 0 rfl ?_
  refine aw_iload_n d_MO_in_1 rfl 1 rfl ?_
  refine at_lt rfl (nI_toInt (by omega)) (tgt := 14) d_MO_in_2 (by decide) (fun c1 => ?_) (fun c1 => ?_)
  · skip
    refine aw_iconst (v := nI 0) d_MO_in_14 (by decide) ?_
    refine aw_zret (Or.inl rfl) d_MO_in_15 rfl (by decide) (by decide) (ab_go1 ?_)
    refine aw_if_eqN (tgt := 24) d_MO_isGood_7 (by decide) (by omega) (fun c2 => ?_) (fun c2 => ?_)
    · skip
      refine aw_iconst (v := nI 0) d_MO_isGood_24 (by decide) ?_
      refine aw_zret (Or.inl rfl) d_MO_isGood_25 rfl (by decide) (by decide) ?_
      exact hF (by unfold nmP wtP; omega)
    · skip
      exact absurd c2 (by decide)
  · skip
    refine aw_iload_n d_MO_in_5 rfl 0 rfl ?_
    refine aw_iload_n d_MO_in_6 rfl 2 rfl ?_
    refine at_gt rfl (nI_toInt (by omega)) (tgt := 14) d_MO_in_7 (by decide) (fun c3 => ?_) (fun c3 => ?_)
    · skip
      refine aw_iconst (v := nI 0) d_MO_in_14 (by decide) ?_
      refine aw_zret (Or.inl rfl) d_MO_in_15 rfl (by decide) (by decide) (ab_go1 ?_)
      refine aw_if_eqN (tgt := 24) d_MO_isGood_7 (by decide) (by omega) (fun c4 => ?_) (fun c4 => ?_)
      · skip
        refine aw_iconst (v := nI 0) d_MO_isGood_24 (by decide) ?_
        refine aw_zret (Or.inl rfl) d_MO_isGood_25 rfl (by decide) (by decide) ?_
        exact hF (by unfold nmP wtP; omega)
      · skip
        exact absurd c4 (by decide)
    · skip
      refine aw_iconst (v := nI 1) d_MO_in_10 (by decide) ?_
      refine aw_goto (tgt := 15) d_MO_in_11 (by decide) ?_
      refine aw_zret (Or.inr rfl) d_MO_in_15 rfl (by decide) (by decide) (ab_go1 ?_)
      refine aw_if_eqN (tgt := 24) d_MO_isGood_7 (by decide) (by omega) (fun c5 => ?_) (fun c5 => ?_)
      · skip
        exact absurd c5 (by decide)
      · skip
        refine aw_dload_n d_MO_isGood_10 rfl 2 rfl ?_
        refine aw_dconst0 d_MO_isGood_11 ?_
        refine aw_dcmp d_MO_isGood_12 ?_
        refine ad_le fw.n fF_zero.n d_MO_isGood_13 (tgt := 24) (by decide) (fun c6 => ?_) (fun c6 => ?_)
        · skip
          refine aw_iconst (v := nI 0) d_MO_isGood_24 (by decide) ?_
          refine aw_zret (Or.inl rfl) d_MO_isGood_25 rfl (by decide) (by decide) ?_
          exact hF (by unfold nmP wtP; omega)
        · skip
          refine aw_dload_n d_MO_isGood_16 rfl 2 rfl ?_
          refine aw_ldc2d (v := 4636737291354636288) d_MO_isGood_17 mw_866 ?_
          refine aw_dcmp d_MO_isGood_20 ?_
          refine ad_le fw.n fF_100.n d_MO_isGood_21 (tgt := 26) (by decide) (fun c7 => ?_) (fun c7 => ?_)
          · skip
            refine aw_iload_n d_MO_isGood_26 rfl 0 rfl ?_
            refine aw_iconst (v := nI 1) d_MO_isGood_27 (by decide) ?_
            refine at_gt rfl (nI_toInt (by omega)) (tgt := 41) d_MO_isGood_28 (by decide) (fun c8 => ?_) (fun c8 => ?_)
            · skip
              refine aw_iload_n d_MO_isGood_41 rfl 0 rfl ?_
              refine aw_iconst (v := nI 2) d_MO_isGood_42 (by decide) ?_
              refine at_eq rfl (nI_toInt (by omega)) (tgt := 51) d_MO_isGood_43 (by decide) (fun c9 => ?_) (fun c9 => ?_)
              · skip
                refine aw_iload_n d_MO_isGood_51 rfl 1 rfl ?_
                refine aw_iconst (v := nI 1) d_MO_isGood_52 (by decide) ?_
                refine aw_bipush (v := nI 24) d_MO_isGood_53 (by decide) ?_
                refine aw_callS (K' := k_MO_in) (As := [.int (y), .int (nI (1)), .int (nI (24))]) (rest := []) d_MO_isGood_55 rfl cs_MO_54 rfl (Nat.le_of_ble_eq_true rfl) (Nat.le_of_ble_eq_true rfl) (by decide) (by decide) (d' := 0) (w' := 0) (by decide) (by decide) ?_
                show AW _ _ _ _ _ _ _ [(0, .int (y)), (1, .int (nI (1))), (2, .int (nI (24)))] _ _ _ _ _
                refine aw_iload_n d_MO_in_0 rfl 0 rfl ?_
                refine aw_iload_n d_MO_in_1 rfl 1 rfl ?_
                refine at_lt rfl (nI_toInt (by omega)) (tgt := 14) d_MO_in_2 (by decide) (fun c10 => ?_) (fun c10 => ?_)
                · skip
                  refine aw_iconst (v := nI 0) d_MO_in_14 (by decide) ?_
                  refine aw_zret (Or.inl rfl) d_MO_in_15 rfl (by decide) (by decide) (ab_go1 ?_)
                  refine aw_if_eqN (tgt := 80) d_MO_isGood_58 (by decide) (by omega) (fun c11 => ?_) (fun c11 => ?_)
                  · skip
                    refine aw_iconst (v := nI 0) d_MO_isGood_80 (by decide) ?_
                    refine aw_zret (Or.inl rfl) d_MO_isGood_81 rfl (by decide) (by decide) ?_
                    exact hF (by unfold nmP wtP; omega)
                  · skip
                    exact absurd c11 (by decide)
                · skip
                  refine aw_iload_n d_MO_in_5 rfl 0 rfl ?_
                  refine aw_iload_n d_MO_in_6 rfl 2 rfl ?_
                  refine at_gt rfl (nI_toInt (by omega)) (tgt := 14) d_MO_in_7 (by decide) (fun c12 => ?_) (fun c12 => ?_)
                  · skip
                    refine aw_iconst (v := nI 0) d_MO_in_14 (by decide) ?_
                    refine aw_zret (Or.inl rfl) d_MO_in_15 rfl (by decide) (by decide) (ab_go1 ?_)
                    refine aw_if_eqN (tgt := 80) d_MO_isGood_58 (by decide) (by omega) (fun c13 => ?_) (fun c13 => ?_)
                    · skip
                      refine aw_iconst (v := nI 0) d_MO_isGood_80 (by decide) ?_
                      refine aw_zret (Or.inl rfl) d_MO_isGood_81 rfl (by decide) (by decide) ?_
                      exact hF (by unfold nmP wtP; omega)
                    · skip
                      exact absurd c13 (by decide)
                  · skip
                    refine aw_iconst (v := nI 1) d_MO_in_10 (by decide) ?_
                    refine aw_goto (tgt := 15) d_MO_in_11 (by decide) ?_
                    refine aw_zret (Or.inr rfl) d_MO_in_15 rfl (by decide) (by decide) (ab_go1 ?_)
                    refine aw_if_eqN (tgt := 80) d_MO_isGood_58 (by decide) (by omega) (fun c14 => ?_) (fun c14 => ?_)
                    · skip
                      exact absurd c14 (by decide)
                    · skip
                      refine aw_iload_n d_MO_isGood_61 rfl 0 rfl ?_
                      refine aw_iconst (v := nI 5) d_MO_isGood_62 (by decide) ?_
                      refine aw_bipush (v := nI 9) d_MO_isGood_63 (by decide) ?_
                      refine aw_callS (K' := k_MO_in) (As := [.int (x), .int (nI (5)), .int (nI (9))]) (rest := []) d_MO_isGood_65 rfl cs_MO_54 rfl (Nat.le_of_ble_eq_true rfl) (Nat.le_of_ble_eq_true rfl) (by decide) (by decide) (d' := 0) (w' := 0) (by decide) (by decide) ?_
                      show AW _ _ _ _ _ _ _ [(0, .int (x)), (1, .int (nI (5))), (2, .int (nI (9)))] _ _ _ _ _
                      refine aw_iload_n d_MO_in_0 rfl 0 rfl ?_
                      refine aw_iload_n d_MO_in_1 rfl 1 rfl ?_
                      refine at_lt rfl (nI_toInt (by omega)) (tgt := 14) d_MO_in_2 (by decide) (fun c15 => ?_) (fun c15 => ?_)
                      · skip
                        refine aw_iconst (v := nI 0) d_MO_in_14 (by decide) ?_
                        refine aw_zret (Or.inl rfl) d_MO_in_15 rfl (by decide) (by decide) (ab_go1 ?_)
                        refine aw_if_eqN (tgt := 82) d_MO_isGood_68 (by decide) (by omega) (fun c16 => ?_) (fun c16 => ?_)
                        · skip
                          refine aw_iload_n d_MO_isGood_82 rfl 0 rfl ?_
                          refine aw_iconst (v := nI 2) d_MO_isGood_83 (by decide) ?_
                          refine at_lt rfl (nI_toInt (by omega)) (tgt := 122) d_MO_isGood_84 (by decide) (fun c17 => ?_) (fun c17 => ?_)
                          · skip
                            refine aw_iconst (v := nI 1) d_MO_isGood_122 (by decide) ?_
                            refine aw_goto (tgt := 127) d_MO_isGood_123 (by decide) ?_
                            refine aw_zret (Or.inr rfl) d_MO_isGood_127 rfl (by decide) (by decide) ?_
                            exact hT (by unfold nmP wtP; omega)
                          · skip
                            refine aw_iload_n d_MO_isGood_87 rfl 0 rfl ?_
                            refine aw_iconst (v := nI 4) d_MO_isGood_88 (by decide) ?_
                            refine at_gt rfl (nI_toInt (by omega)) (tgt := 122) d_MO_isGood_89 (by decide) (fun c18 => ?_) (fun c18 => ?_)
                            · skip
                              refine aw_iconst (v := nI 1) d_MO_isGood_122 (by decide) ?_
                              refine aw_goto (tgt := 127) d_MO_isGood_123 (by decide) ?_
                              refine aw_zret (Or.inr rfl) d_MO_isGood_127 rfl (by decide) (by decide) ?_
                              exact hT (by unfold nmP wtP; omega)
                            · skip
                              refine aw_dload_n d_MO_isGood_92 rfl 2 rfl ?_
                              refine aw_dconst1 d_MO_isGood_93 ?_
                              refine aw_dcmp d_MO_isGood_94 ?_
                              refine ad_eq fw.n fF_one.n d_MO_isGood_95 (tgt := 122) (by decide) (fun c19 => ?_) (fun c19 => ?_)
                              · skip
                                refine aw_iconst (v := nI 1) d_MO_isGood_122 (by decide) ?_
                                refine aw_goto (tgt := 127) d_MO_isGood_123 (by decide) ?_
                                refine aw_zret (Or.inr rfl) d_MO_isGood_127 rfl (by decide) (by decide) ?_
                                exact hT (by unfold nmP wtP; omega)
                              · skip
                                refine aw_dload_n d_MO_isGood_98 rfl 2 rfl ?_
                                refine aw_ldc2d (v := 4611686018427387904) d_MO_isGood_99 mw_774 ?_
                                refine aw_dcmp d_MO_isGood_102 ?_
                                refine ad_eq fw.n fF_2.n d_MO_isGood_103 (tgt := 122) (by decide) (fun c20 => ?_) (fun c20 => ?_)
                                · skip
                                  refine aw_iconst (v := nI 1) d_MO_isGood_122 (by decide) ?_
                                  refine aw_goto (tgt := 127) d_MO_isGood_123 (by decide) ?_
                                  refine aw_zret (Or.inr rfl) d_MO_isGood_127 rfl (by decide) (by decide) ?_
                                  exact hT (by unfold nmP wtP; omega)
                                · skip
                                  refine aw_dload_n d_MO_isGood_106 rfl 2 rfl ?_
                                  refine aw_ldc2d (v := 4613937818241073152) d_MO_isGood_107 mw_867 ?_
                                  refine aw_dcmp d_MO_isGood_110 ?_
                                  refine ad_eq fw.n fF_3.n d_MO_isGood_111 (tgt := 122) (by decide) (fun c21 => ?_) (fun c21 => ?_)
                                  · skip
                                    refine aw_iconst (v := nI 1) d_MO_isGood_122 (by decide) ?_
                                    refine aw_goto (tgt := 127) d_MO_isGood_123 (by decide) ?_
                                    refine aw_zret (Or.inr rfl) d_MO_isGood_127 rfl (by decide) (by decide) ?_
                                    exact hT (by unfold nmP wtP; omega)
                                  · skip
                                    refine aw_dload_n d_MO_isGood_114 rfl 2 rfl ?_
                                    refine aw_ldc2d (v := 4616189618054758400) d_MO_isGood_115 mw_868 ?_
                                    refine aw_dcmp d_MO_isGood_118 ?_
                                    refine ad_ne fw.n fF_4.n d_MO_isGood_119 (tgt := 126) (by decide) (fun c22 => ?_) (fun c22 => ?_)
                                    · skip
                                      refine aw_iconst (v := nI 0) d_MO_isGood_126 (by decide) ?_
                                      refine aw_zret (Or.inl rfl) d_MO_isGood_127 rfl (by decide) (by decide) ?_
                                      exact hF (by unfold nmP wtP; omega)
                                    · skip
                                      refine aw_iconst (v := nI 1) d_MO_isGood_122 (by decide) ?_
                                      refine aw_goto (tgt := 127) d_MO_isGood_123 (by decide) ?_
                                      refine aw_zret (Or.inr rfl) d_MO_isGood_127 rfl (by decide) (by decide) ?_
                                      exact hT (by unfold nmP wtP; omega)
                        · skip
                          exact absurd c16 (by decide)
                      · skip
                        refine aw_iload_n d_MO_in_5 rfl 0 rfl ?_
                        refine aw_iload_n d_MO_in_6 rfl 2 rfl ?_
                        refine at_gt rfl (nI_toInt (by omega)) (tgt := 14) d_MO_in_7 (by decide) (fun c23 => ?_) (fun c23 => ?_)
                        · skip
                          refine aw_iconst (v := nI 0) d_MO_in_14 (by decide) ?_
                          refine aw_zret (Or.inl rfl) d_MO_in_15 rfl (by decide) (by decide) (ab_go1 ?_)
                          refine aw_if_eqN (tgt := 82) d_MO_isGood_68 (by decide) (by omega) (fun c24 => ?_) (fun c24 => ?_)
                          · skip
                            refine aw_iload_n d_MO_isGood_82 rfl 0 rfl ?_
                            refine aw_iconst (v := nI 2) d_MO_isGood_83 (by decide) ?_
                            refine at_lt rfl (nI_toInt (by omega)) (tgt := 122) d_MO_isGood_84 (by decide) (fun c25 => ?_) (fun c25 => ?_)
                            · skip
                              refine aw_iconst (v := nI 1) d_MO_isGood_122 (by decide) ?_
                              refine aw_goto (tgt := 127) d_MO_isGood_123 (by decide) ?_
                              refine aw_zret (Or.inr rfl) d_MO_isGood_127 rfl (by decide) (by decide) ?_
                              exact hT (by unfold nmP wtP; omega)
                            · skip
                              refine aw_iload_n d_MO_isGood_87 rfl 0 rfl ?_
                              refine aw_iconst (v := nI 4) d_MO_isGood_88 (by decide) ?_
                              refine at_gt rfl (nI_toInt (by omega)) (tgt := 122) d_MO_isGood_89 (by decide) (fun c26 => ?_) (fun c26 => ?_)
                              · skip
                                refine aw_iconst (v := nI 1) d_MO_isGood_122 (by decide) ?_
                                refine aw_goto (tgt := 127) d_MO_isGood_123 (by decide) ?_
                                refine aw_zret (Or.inr rfl) d_MO_isGood_127 rfl (by decide) (by decide) ?_
                                exact hT (by unfold nmP wtP; omega)
                              · skip
                                refine aw_dload_n d_MO_isGood_92 rfl 2 rfl ?_
                                refine aw_dconst1 d_MO_isGood_93 ?_
                                refine aw_dcmp d_MO_isGood_94 ?_
                                refine ad_eq fw.n fF_one.n d_MO_isGood_95 (tgt := 122) (by decide) (fun c27 => ?_) (fun c27 => ?_)
                                · skip
                                  refine aw_iconst (v := nI 1) d_MO_isGood_122 (by decide) ?_
                                  refine aw_goto (tgt := 127) d_MO_isGood_123 (by decide) ?_
                                  refine aw_zret (Or.inr rfl) d_MO_isGood_127 rfl (by decide) (by decide) ?_
                                  exact hT (by unfold nmP wtP; omega)
                                · skip
                                  refine aw_dload_n d_MO_isGood_98 rfl 2 rfl ?_
                                  refine aw_ldc2d (v := 4611686018427387904) d_MO_isGood_99 mw_774 ?_
                                  refine aw_dcmp d_MO_isGood_102 ?_
                                  refine ad_eq fw.n fF_2.n d_MO_isGood_103 (tgt := 122) (by decide) (fun c28 => ?_) (fun c28 => ?_)
                                  · skip
                                    refine aw_iconst (v := nI 1) d_MO_isGood_122 (by decide) ?_
                                    refine aw_goto (tgt := 127) d_MO_isGood_123 (by decide) ?_
                                    refine aw_zret (Or.inr rfl) d_MO_isGood_127 rfl (by decide) (by decide) ?_
                                    exact hT (by unfold nmP wtP; omega)
                                  · skip
                                    refine aw_dload_n d_MO_isGood_106 rfl 2 rfl ?_
                                    refine aw_ldc2d (v := 4613937818241073152) d_MO_isGood_107 mw_867 ?_
                                    refine aw_dcmp d_MO_isGood_110 ?_
                                    refine ad_eq fw.n fF_3.n d_MO_isGood_111 (tgt := 122) (by decide) (fun c29 => ?_) (fun c29 => ?_)
                                    · skip
                                      refine aw_iconst (v := nI 1) d_MO_isGood_122 (by decide) ?_
                                      refine aw_goto (tgt := 127) d_MO_isGood_123 (by decide) ?_
                                      refine aw_zret (Or.inr rfl) d_MO_isGood_127 rfl (by decide) (by decide) ?_
                                      exact hT (by unfold nmP wtP; omega)
                                    · skip
                                      refine aw_dload_n d_MO_isGood_114 rfl 2 rfl ?_
                                      refine aw_ldc2d (v := 4616189618054758400) d_MO_isGood_115 mw_868 ?_
                                      refine aw_dcmp d_MO_isGood_118 ?_
                                      refine ad_ne fw.n fF_4.n d_MO_isGood_119 (tgt := 126) (by decide) (fun c30 => ?_) (fun c30 => ?_)
                                      · skip
                                        refine aw_iconst (v := nI 0) d_MO_isGood_126 (by decide) ?_
                                        refine aw_zret (Or.inl rfl) d_MO_isGood_127 rfl (by decide) (by decide) ?_
                                        exact hF (by unfold nmP wtP; omega)
                                      · skip
                                        refine aw_iconst (v := nI 1) d_MO_isGood_122 (by decide) ?_
                                        refine aw_goto (tgt := 127) d_MO_isGood_123 (by decide) ?_
                                        refine aw_zret (Or.inr rfl) d_MO_isGood_127 rfl (by decide) (by decide) ?_
                                        exact hT (by unfold nmP wtP; omega)
                          · skip
                            exact absurd c24 (by decide)
                        · skip
                          refine aw_iconst (v := nI 1) d_MO_in_10 (by decide) ?_
                          refine aw_goto (tgt := 15) d_MO_in_11 (by decide) ?_
                          refine aw_zret (Or.inr rfl) d_MO_in_15 rfl (by decide) (by decide) (ab_go1 ?_)
                          refine aw_if_eqN (tgt := 82) d_MO_isGood_68 (by decide) (by omega) (fun c31 => ?_) (fun c31 => ?_)
                          · skip
                            exact absurd c31 (by decide)
                          · skip
                            refine aw_iload_n d_MO_isGood_71 rfl 1 rfl ?_
                            refine aw_iconst (v := nI 1) d_MO_isGood_72 (by decide) ?_
                            refine aw_iconst (v := nI 4) d_MO_isGood_73 (by decide) ?_
                            refine aw_callS (K' := k_MO_in) (As := [.int (y), .int (nI (1)), .int (nI (4))]) (rest := []) d_MO_isGood_74 rfl cs_MO_54 rfl (Nat.le_of_ble_eq_true rfl) (Nat.le_of_ble_eq_true rfl) (by decide) (by decide) (d' := 0) (w' := 0) (by decide) (by decide) ?_
                            show AW _ _ _ _ _ _ _ [(0, .int (y)), (1, .int (nI (1))), (2, .int (nI (4)))] _ _ _ _ _
                            refine aw_iload_n d_MO_in_0 rfl 0 rfl ?_
                            refine aw_iload_n d_MO_in_1 rfl 1 rfl ?_
                            refine at_lt rfl (nI_toInt (by omega)) (tgt := 14) d_MO_in_2 (by decide) (fun c32 => ?_) (fun c32 => ?_)
                            · skip
                              refine aw_iconst (v := nI 0) d_MO_in_14 (by decide) ?_
                              refine aw_zret (Or.inl rfl) d_MO_in_15 rfl (by decide) (by decide) (ab_go1 ?_)
                              refine aw_if_neN (tgt := 82) d_MO_isGood_77 (by decide) (by omega) (fun c33 => ?_) (fun c33 => ?_)
                              · skip
                                exact absurd c33 (by decide)
                              · skip
                                refine aw_iconst (v := nI 0) d_MO_isGood_80 (by decide) ?_
                                refine aw_zret (Or.inl rfl) d_MO_isGood_81 rfl (by decide) (by decide) ?_
                                exact hF (by unfold nmP wtP; omega)
                            · skip
                              refine aw_iload_n d_MO_in_5 rfl 0 rfl ?_
                              refine aw_iload_n d_MO_in_6 rfl 2 rfl ?_
                              refine at_gt rfl (nI_toInt (by omega)) (tgt := 14) d_MO_in_7 (by decide) (fun c34 => ?_) (fun c34 => ?_)
                              · skip
                                refine aw_iconst (v := nI 0) d_MO_in_14 (by decide) ?_
                                refine aw_zret (Or.inl rfl) d_MO_in_15 rfl (by decide) (by decide) (ab_go1 ?_)
                                refine aw_if_neN (tgt := 82) d_MO_isGood_77 (by decide) (by omega) (fun c35 => ?_) (fun c35 => ?_)
                                · skip
                                  exact absurd c35 (by decide)
                                · skip
                                  refine aw_iconst (v := nI 0) d_MO_isGood_80 (by decide) ?_
                                  refine aw_zret (Or.inl rfl) d_MO_isGood_81 rfl (by decide) (by decide) ?_
                                  exact hF (by unfold nmP wtP; omega)
                              · skip
                                refine aw_iconst (v := nI 1) d_MO_in_10 (by decide) ?_
                                refine aw_goto (tgt := 15) d_MO_in_11 (by decide) ?_
                                refine aw_zret (Or.inr rfl) d_MO_in_15 rfl (by decide) (by decide) (ab_go1 ?_)
                                refine aw_if_neN (tgt := 82) d_MO_isGood_77 (by decide) (by omega) (fun c36 => ?_) (fun c36 => ?_)
                                · skip
                                  refine aw_iload_n d_MO_isGood_82 rfl 0 rfl ?_
                                  refine aw_iconst (v := nI 2) d_MO_isGood_83 (by decide) ?_
                                  refine at_lt rfl (nI_toInt (by omega)) (tgt := 122) d_MO_isGood_84 (by decide) (fun c37 => ?_) (fun c37 => ?_)
                                  · skip
                                    refine aw_iconst (v := nI 1) d_MO_isGood_122 (by decide) ?_
                                    refine aw_goto (tgt := 127) d_MO_isGood_123 (by decide) ?_
                                    refine aw_zret (Or.inr rfl) d_MO_isGood_127 rfl (by decide) (by decide) ?_
                                    exact hT (by unfold nmP wtP; omega)
                                  · skip
                                    refine aw_iload_n d_MO_isGood_87 rfl 0 rfl ?_
                                    refine aw_iconst (v := nI 4) d_MO_isGood_88 (by decide) ?_
                                    refine at_gt rfl (nI_toInt (by omega)) (tgt := 122) d_MO_isGood_89 (by decide) (fun c38 => ?_) (fun c38 => ?_)
                                    · skip
                                      refine aw_iconst (v := nI 1) d_MO_isGood_122 (by decide) ?_
                                      refine aw_goto (tgt := 127) d_MO_isGood_123 (by decide) ?_
                                      refine aw_zret (Or.inr rfl) d_MO_isGood_127 rfl (by decide) (by decide) ?_
                                      exact hT (by unfold nmP wtP; omega)
                                    · skip
                                      refine aw_dload_n d_MO_isGood_92 rfl 2 rfl ?_
                                      refine aw_dconst1 d_MO_isGood_93 ?_
                                      refine aw_dcmp d_MO_isGood_94 ?_
                                      refine ad_eq fw.n fF_one.n d_MO_isGood_95 (tgt := 122) (by decide) (fun c39 => ?_) (fun c39 => ?_)
                                      · skip
                                        refine aw_iconst (v := nI 1) d_MO_isGood_122 (by decide) ?_
                                        refine aw_goto (tgt := 127) d_MO_isGood_123 (by decide) ?_
                                        refine aw_zret (Or.inr rfl) d_MO_isGood_127 rfl (by decide) (by decide) ?_
                                        exact hT (by unfold nmP wtP; omega)
                                      · skip
                                        refine aw_dload_n d_MO_isGood_98 rfl 2 rfl ?_
                                        refine aw_ldc2d (v := 4611686018427387904) d_MO_isGood_99 mw_774 ?_
                                        refine aw_dcmp d_MO_isGood_102 ?_
                                        refine ad_eq fw.n fF_2.n d_MO_isGood_103 (tgt := 122) (by decide) (fun c40 => ?_) (fun c40 => ?_)
                                        · skip
                                          refine aw_iconst (v := nI 1) d_MO_isGood_122 (by decide) ?_
                                          refine aw_goto (tgt := 127) d_MO_isGood_123 (by decide) ?_
                                          refine aw_zret (Or.inr rfl) d_MO_isGood_127 rfl (by decide) (by decide) ?_
                                          exact hT (by unfold nmP wtP; omega)
                                        · skip
                                          refine aw_dload_n d_MO_isGood_106 rfl 2 rfl ?_
                                          refine aw_ldc2d (v := 4613937818241073152) d_MO_isGood_107 mw_867 ?_
                                          refine aw_dcmp d_MO_isGood_110 ?_
                                          refine ad_eq fw.n fF_3.n d_MO_isGood_111 (tgt := 122) (by decide) (fun c41 => ?_) (fun c41 => ?_)
                                          · skip
                                            refine aw_iconst (v := nI 1) d_MO_isGood_122 (by decide) ?_
                                            refine aw_goto (tgt := 127) d_MO_isGood_123 (by decide) ?_
                                            refine aw_zret (Or.inr rfl) d_MO_isGood_127 rfl (by decide) (by decide) ?_
                                            exact hT (by unfold nmP wtP; omega)
                                          · skip
                                            refine aw_dload_n d_MO_isGood_114 rfl 2 rfl ?_
                                            refine aw_ldc2d (v := 4616189618054758400) d_MO_isGood_115 mw_868 ?_
                                            refine aw_dcmp d_MO_isGood_118 ?_
                                            refine ad_ne fw.n fF_4.n d_MO_isGood_119 (tgt := 126) (by decide) (fun c42 => ?_) (fun c42 => ?_)
                                            · skip
                                              refine aw_iconst (v := nI 0) d_MO_isGood_126 (by decide) ?_
                                              refine aw_zret (Or.inl rfl) d_MO_isGood_127 rfl (by decide) (by decide) ?_
                                              exact hF (by unfold nmP wtP; omega)
                                            · skip
                                              refine aw_iconst (v := nI 1) d_MO_isGood_122 (by decide) ?_
                                              refine aw_goto (tgt := 127) d_MO_isGood_123 (by decide) ?_
                                              refine aw_zret (Or.inr rfl) d_MO_isGood_127 rfl (by decide) (by decide) ?_
                                              exact hT (by unfold nmP wtP; omega)
                                · skip
                                  exact absurd c36 (by decide)
              · skip
                refine aw_iload_n d_MO_isGood_46 rfl 0 rfl ?_
                refine aw_iconst (v := nI 3) d_MO_isGood_47 (by decide) ?_
                refine at_ne rfl (nI_toInt (by omega)) (tgt := 61) d_MO_isGood_48 (by decide) (fun c43 => ?_) (fun c43 => ?_)
                · skip
                  refine aw_iload_n d_MO_isGood_61 rfl 0 rfl ?_
                  refine aw_iconst (v := nI 5) d_MO_isGood_62 (by decide) ?_
                  refine aw_bipush (v := nI 9) d_MO_isGood_63 (by decide) ?_
                  refine aw_callS (K' := k_MO_in) (As := [.int (x), .int (nI (5)), .int (nI (9))]) (rest := []) d_MO_isGood_65 rfl cs_MO_54 rfl (Nat.le_of_ble_eq_true rfl) (Nat.le_of_ble_eq_true rfl) (by decide) (by decide) (d' := 0) (w' := 0) (by decide) (by decide) ?_
                  show AW _ _ _ _ _ _ _ [(0, .int (x)), (1, .int (nI (5))), (2, .int (nI (9)))] _ _ _ _ _
                  refine aw_iload_n d_MO_in_0 rfl 0 rfl ?_
                  refine aw_iload_n d_MO_in_1 rfl 1 rfl ?_
                  refine at_lt rfl (nI_toInt (by omega)) (tgt := 14) d_MO_in_2 (by decide) (fun c44 => ?_) (fun c44 => ?_)
                  · skip
                    refine aw_iconst (v := nI 0) d_MO_in_14 (by decide) ?_
                    refine aw_zret (Or.inl rfl) d_MO_in_15 rfl (by decide) (by decide) (ab_go1 ?_)
                    refine aw_if_eqN (tgt := 82) d_MO_isGood_68 (by decide) (by omega) (fun c45 => ?_) (fun c45 => ?_)
                    · skip
                      refine aw_iload_n d_MO_isGood_82 rfl 0 rfl ?_
                      refine aw_iconst (v := nI 2) d_MO_isGood_83 (by decide) ?_
                      refine at_lt rfl (nI_toInt (by omega)) (tgt := 122) d_MO_isGood_84 (by decide) (fun c46 => ?_) (fun c46 => ?_)
                      · skip
                        refine aw_iconst (v := nI 1) d_MO_isGood_122 (by decide) ?_
                        refine aw_goto (tgt := 127) d_MO_isGood_123 (by decide) ?_
                        refine aw_zret (Or.inr rfl) d_MO_isGood_127 rfl (by decide) (by decide) ?_
                        exact hT (by unfold nmP wtP; omega)
                      · skip
                        refine aw_iload_n d_MO_isGood_87 rfl 0 rfl ?_
                        refine aw_iconst (v := nI 4) d_MO_isGood_88 (by decide) ?_
                        refine at_gt rfl (nI_toInt (by omega)) (tgt := 122) d_MO_isGood_89 (by decide) (fun c47 => ?_) (fun c47 => ?_)
                        · skip
                          refine aw_iconst (v := nI 1) d_MO_isGood_122 (by decide) ?_
                          refine aw_goto (tgt := 127) d_MO_isGood_123 (by decide) ?_
                          refine aw_zret (Or.inr rfl) d_MO_isGood_127 rfl (by decide) (by decide) ?_
                          exact hT (by unfold nmP wtP; omega)
                        · skip
                          refine aw_dload_n d_MO_isGood_92 rfl 2 rfl ?_
                          refine aw_dconst1 d_MO_isGood_93 ?_
                          refine aw_dcmp d_MO_isGood_94 ?_
                          refine ad_eq fw.n fF_one.n d_MO_isGood_95 (tgt := 122) (by decide) (fun c48 => ?_) (fun c48 => ?_)
                          · skip
                            refine aw_iconst (v := nI 1) d_MO_isGood_122 (by decide) ?_
                            refine aw_goto (tgt := 127) d_MO_isGood_123 (by decide) ?_
                            refine aw_zret (Or.inr rfl) d_MO_isGood_127 rfl (by decide) (by decide) ?_
                            exact hT (by unfold nmP wtP; omega)
                          · skip
                            refine aw_dload_n d_MO_isGood_98 rfl 2 rfl ?_
                            refine aw_ldc2d (v := 4611686018427387904) d_MO_isGood_99 mw_774 ?_
                            refine aw_dcmp d_MO_isGood_102 ?_
                            refine ad_eq fw.n fF_2.n d_MO_isGood_103 (tgt := 122) (by decide) (fun c49 => ?_) (fun c49 => ?_)
                            · skip
                              refine aw_iconst (v := nI 1) d_MO_isGood_122 (by decide) ?_
                              refine aw_goto (tgt := 127) d_MO_isGood_123 (by decide) ?_
                              refine aw_zret (Or.inr rfl) d_MO_isGood_127 rfl (by decide) (by decide) ?_
                              exact hT (by unfold nmP wtP; omega)
                            · skip
                              refine aw_dload_n d_MO_isGood_106 rfl 2 rfl ?_
                              refine aw_ldc2d (v := 4613937818241073152) d_MO_isGood_107 mw_867 ?_
                              refine aw_dcmp d_MO_isGood_110 ?_
                              refine ad_eq fw.n fF_3.n d_MO_isGood_111 (tgt := 122) (by decide) (fun c50 => ?_) (fun c50 => ?_)
                              · skip
                                refine aw_iconst (v := nI 1) d_MO_isGood_122 (by decide) ?_
                                refine aw_goto (tgt := 127) d_MO_isGood_123 (by decide) ?_
                                refine aw_zret (Or.inr rfl) d_MO_isGood_127 rfl (by decide) (by decide) ?_
                                exact hT (by unfold nmP wtP; omega)
                              · skip
                                refine aw_dload_n d_MO_isGood_114 rfl 2 rfl ?_
                                refine aw_ldc2d (v := 4616189618054758400) d_MO_isGood_115 mw_868 ?_
                                refine aw_dcmp d_MO_isGood_118 ?_
                                refine ad_ne fw.n fF_4.n d_MO_isGood_119 (tgt := 126) (by decide) (fun c51 => ?_) (fun c51 => ?_)
                                · skip
                                  refine aw_iconst (v := nI 0) d_MO_isGood_126 (by decide) ?_
                                  refine aw_zret (Or.inl rfl) d_MO_isGood_127 rfl (by decide) (by decide) ?_
                                  exact hF (by unfold nmP wtP; omega)
                                · skip
                                  refine aw_iconst (v := nI 1) d_MO_isGood_122 (by decide) ?_
                                  refine aw_goto (tgt := 127) d_MO_isGood_123 (by decide) ?_
                                  refine aw_zret (Or.inr rfl) d_MO_isGood_127 rfl (by decide) (by decide) ?_
                                  exact hT (by unfold nmP wtP; omega)
                    · skip
                      exact absurd c45 (by decide)
                  · skip
                    refine aw_iload_n d_MO_in_5 rfl 0 rfl ?_
                    refine aw_iload_n d_MO_in_6 rfl 2 rfl ?_
                    refine at_gt rfl (nI_toInt (by omega)) (tgt := 14) d_MO_in_7 (by decide) (fun c52 => ?_) (fun c52 => ?_)
                    · skip
                      refine aw_iconst (v := nI 0) d_MO_in_14 (by decide) ?_
                      refine aw_zret (Or.inl rfl) d_MO_in_15 rfl (by decide) (by decide) (ab_go1 ?_)
                      refine aw_if_eqN (tgt := 82) d_MO_isGood_68 (by decide) (by omega) (fun c53 => ?_) (fun c53 => ?_)
                      · skip
                        refine aw_iload_n d_MO_isGood_82 rfl 0 rfl ?_
                        refine aw_iconst (v := nI 2) d_MO_isGood_83 (by decide) ?_
                        refine at_lt rfl (nI_toInt (by omega)) (tgt := 122) d_MO_isGood_84 (by decide) (fun c54 => ?_) (fun c54 => ?_)
                        · skip
                          refine aw_iconst (v := nI 1) d_MO_isGood_122 (by decide) ?_
                          refine aw_goto (tgt := 127) d_MO_isGood_123 (by decide) ?_
                          refine aw_zret (Or.inr rfl) d_MO_isGood_127 rfl (by decide) (by decide) ?_
                          exact hT (by unfold nmP wtP; omega)
                        · skip
                          refine aw_iload_n d_MO_isGood_87 rfl 0 rfl ?_
                          refine aw_iconst (v := nI 4) d_MO_isGood_88 (by decide) ?_
                          refine at_gt rfl (nI_toInt (by omega)) (tgt := 122) d_MO_isGood_89 (by decide) (fun c55 => ?_) (fun c55 => ?_)
                          · skip
                            refine aw_iconst (v := nI 1) d_MO_isGood_122 (by decide) ?_
                            refine aw_goto (tgt := 127) d_MO_isGood_123 (by decide) ?_
                            refine aw_zret (Or.inr rfl) d_MO_isGood_127 rfl (by decide) (by decide) ?_
                            exact hT (by unfold nmP wtP; omega)
                          · skip
                            refine aw_dload_n d_MO_isGood_92 rfl 2 rfl ?_
                            refine aw_dconst1 d_MO_isGood_93 ?_
                            refine aw_dcmp d_MO_isGood_94 ?_
                            refine ad_eq fw.n fF_one.n d_MO_isGood_95 (tgt := 122) (by decide) (fun c56 => ?_) (fun c56 => ?_)
                            · skip
                              refine aw_iconst (v := nI 1) d_MO_isGood_122 (by decide) ?_
                              refine aw_goto (tgt := 127) d_MO_isGood_123 (by decide) ?_
                              refine aw_zret (Or.inr rfl) d_MO_isGood_127 rfl (by decide) (by decide) ?_
                              exact hT (by unfold nmP wtP; omega)
                            · skip
                              refine aw_dload_n d_MO_isGood_98 rfl 2 rfl ?_
                              refine aw_ldc2d (v := 4611686018427387904) d_MO_isGood_99 mw_774 ?_
                              refine aw_dcmp d_MO_isGood_102 ?_
                              refine ad_eq fw.n fF_2.n d_MO_isGood_103 (tgt := 122) (by decide) (fun c57 => ?_) (fun c57 => ?_)
                              · skip
                                refine aw_iconst (v := nI 1) d_MO_isGood_122 (by decide) ?_
                                refine aw_goto (tgt := 127) d_MO_isGood_123 (by decide) ?_
                                refine aw_zret (Or.inr rfl) d_MO_isGood_127 rfl (by decide) (by decide) ?_
                                exact hT (by unfold nmP wtP; omega)
                              · skip
                                refine aw_dload_n d_MO_isGood_106 rfl 2 rfl ?_
                                refine aw_ldc2d (v := 4613937818241073152) d_MO_isGood_107 mw_867 ?_
                                refine aw_dcmp d_MO_isGood_110 ?_
                                refine ad_eq fw.n fF_3.n d_MO_isGood_111 (tgt := 122) (by decide) (fun c58 => ?_) (fun c58 => ?_)
                                · skip
                                  refine aw_iconst (v := nI 1) d_MO_isGood_122 (by decide) ?_
                                  refine aw_goto (tgt := 127) d_MO_isGood_123 (by decide) ?_
                                  refine aw_zret (Or.inr rfl) d_MO_isGood_127 rfl (by decide) (by decide) ?_
                                  exact hT (by unfold nmP wtP; omega)
                                · skip
                                  refine aw_dload_n d_MO_isGood_114 rfl 2 rfl ?_
                                  refine aw_ldc2d (v := 4616189618054758400) d_MO_isGood_115 mw_868 ?_
                                  refine aw_dcmp d_MO_isGood_118 ?_
                                  refine ad_ne fw.n fF_4.n d_MO_isGood_119 (tgt := 126) (by decide) (fun c59 => ?_) (fun c59 => ?_)
                                  · skip
                                    refine aw_iconst (v := nI 0) d_MO_isGood_126 (by decide) ?_
                                    refine aw_zret (Or.inl rfl) d_MO_isGood_127 rfl (by decide) (by decide) ?_
                                    exact hF (by unfold nmP wtP; omega)
                                  · skip
                                    refine aw_iconst (v := nI 1) d_MO_isGood_122 (by decide) ?_
                                    refine aw_goto (tgt := 127) d_MO_isGood_123 (by decide) ?_
                                    refine aw_zret (Or.inr rfl) d_MO_isGood_127 rfl (by decide) (by decide) ?_
                                    exact hT (by unfold nmP wtP; omega)
                      · skip
                        exact absurd c53 (by decide)
                    · skip
                      refine aw_iconst (v := nI 1) d_MO_in_10 (by decide) ?_
                      refine aw_goto (tgt := 15) d_MO_in_11 (by decide) ?_
                      refine aw_zret (Or.inr rfl) d_MO_in_15 rfl (by decide) (by decide) (ab_go1 ?_)
                      refine aw_if_eqN (tgt := 82) d_MO_isGood_68 (by decide) (by omega) (fun c60 => ?_) (fun c60 => ?_)
                      · skip
                        exact absurd c60 (by decide)
                      · skip
                        refine aw_iload_n d_MO_isGood_71 rfl 1 rfl ?_
                        refine aw_iconst (v := nI 1) d_MO_isGood_72 (by decide) ?_
                        refine aw_iconst (v := nI 4) d_MO_isGood_73 (by decide) ?_
                        refine aw_callS (K' := k_MO_in) (As := [.int (y), .int (nI (1)), .int (nI (4))]) (rest := []) d_MO_isGood_74 rfl cs_MO_54 rfl (Nat.le_of_ble_eq_true rfl) (Nat.le_of_ble_eq_true rfl) (by decide) (by decide) (d' := 0) (w' := 0) (by decide) (by decide) ?_
                        show AW _ _ _ _ _ _ _ [(0, .int (y)), (1, .int (nI (1))), (2, .int (nI (4)))] _ _ _ _ _
                        refine aw_iload_n d_MO_in_0 rfl 0 rfl ?_
                        refine aw_iload_n d_MO_in_1 rfl 1 rfl ?_
                        refine at_lt rfl (nI_toInt (by omega)) (tgt := 14) d_MO_in_2 (by decide) (fun c61 => ?_) (fun c61 => ?_)
                        · skip
                          refine aw_iconst (v := nI 0) d_MO_in_14 (by decide) ?_
                          refine aw_zret (Or.inl rfl) d_MO_in_15 rfl (by decide) (by decide) (ab_go1 ?_)
                          refine aw_if_neN (tgt := 82) d_MO_isGood_77 (by decide) (by omega) (fun c62 => ?_) (fun c62 => ?_)
                          · skip
                            exact absurd c62 (by decide)
                          · skip
                            refine aw_iconst (v := nI 0) d_MO_isGood_80 (by decide) ?_
                            refine aw_zret (Or.inl rfl) d_MO_isGood_81 rfl (by decide) (by decide) ?_
                            exact hF (by unfold nmP wtP; omega)
                        · skip
                          refine aw_iload_n d_MO_in_5 rfl 0 rfl ?_
                          refine aw_iload_n d_MO_in_6 rfl 2 rfl ?_
                          refine at_gt rfl (nI_toInt (by omega)) (tgt := 14) d_MO_in_7 (by decide) (fun c63 => ?_) (fun c63 => ?_)
                          · skip
                            refine aw_iconst (v := nI 0) d_MO_in_14 (by decide) ?_
                            refine aw_zret (Or.inl rfl) d_MO_in_15 rfl (by decide) (by decide) (ab_go1 ?_)
                            refine aw_if_neN (tgt := 82) d_MO_isGood_77 (by decide) (by omega) (fun c64 => ?_) (fun c64 => ?_)
                            · skip
                              exact absurd c64 (by decide)
                            · skip
                              refine aw_iconst (v := nI 0) d_MO_isGood_80 (by decide) ?_
                              refine aw_zret (Or.inl rfl) d_MO_isGood_81 rfl (by decide) (by decide) ?_
                              exact hF (by unfold nmP wtP; omega)
                          · skip
                            refine aw_iconst (v := nI 1) d_MO_in_10 (by decide) ?_
                            refine aw_goto (tgt := 15) d_MO_in_11 (by decide) ?_
                            refine aw_zret (Or.inr rfl) d_MO_in_15 rfl (by decide) (by decide) (ab_go1 ?_)
                            refine aw_if_neN (tgt := 82) d_MO_isGood_77 (by decide) (by omega) (fun c65 => ?_) (fun c65 => ?_)
                            · skip
                              refine aw_iload_n d_MO_isGood_82 rfl 0 rfl ?_
                              refine aw_iconst (v := nI 2) d_MO_isGood_83 (by decide) ?_
                              refine at_lt rfl (nI_toInt (by omega)) (tgt := 122) d_MO_isGood_84 (by decide) (fun c66 => ?_) (fun c66 => ?_)
                              · skip
                                refine aw_iconst (v := nI 1) d_MO_isGood_122 (by decide) ?_
                                refine aw_goto (tgt := 127) d_MO_isGood_123 (by decide) ?_
                                refine aw_zret (Or.inr rfl) d_MO_isGood_127 rfl (by decide) (by decide) ?_
                                exact hT (by unfold nmP wtP; omega)
                              · skip
                                refine aw_iload_n d_MO_isGood_87 rfl 0 rfl ?_
                                refine aw_iconst (v := nI 4) d_MO_isGood_88 (by decide) ?_
                                refine at_gt rfl (nI_toInt (by omega)) (tgt := 122) d_MO_isGood_89 (by decide) (fun c67 => ?_) (fun c67 => ?_)
                                · skip
                                  refine aw_iconst (v := nI 1) d_MO_isGood_122 (by decide) ?_
                                  refine aw_goto (tgt := 127) d_MO_isGood_123 (by decide) ?_
                                  refine aw_zret (Or.inr rfl) d_MO_isGood_127 rfl (by decide) (by decide) ?_
                                  exact hT (by unfold nmP wtP; omega)
                                · skip
                                  refine aw_dload_n d_MO_isGood_92 rfl 2 rfl ?_
                                  refine aw_dconst1 d_MO_isGood_93 ?_
                                  refine aw_dcmp d_MO_isGood_94 ?_
                                  refine ad_eq fw.n fF_one.n d_MO_isGood_95 (tgt := 122) (by decide) (fun c68 => ?_) (fun c68 => ?_)
                                  · skip
                                    refine aw_iconst (v := nI 1) d_MO_isGood_122 (by decide) ?_
                                    refine aw_goto (tgt := 127) d_MO_isGood_123 (by decide) ?_
                                    refine aw_zret (Or.inr rfl) d_MO_isGood_127 rfl (by decide) (by decide) ?_
                                    exact hT (by unfold nmP wtP; omega)
                                  · skip
                                    refine aw_dload_n d_MO_isGood_98 rfl 2 rfl ?_
                                    refine aw_ldc2d (v := 4611686018427387904) d_MO_isGood_99 mw_774 ?_
                                    refine aw_dcmp d_MO_isGood_102 ?_
                                    refine ad_eq fw.n fF_2.n d_MO_isGood_103 (tgt := 122) (by decide) (fun c69 => ?_) (fun c69 => ?_)
                                    · skip
                                      refine aw_iconst (v := nI 1) d_MO_isGood_122 (by decide) ?_
                                      refine aw_goto (tgt := 127) d_MO_isGood_123 (by decide) ?_
                                      refine aw_zret (Or.inr rfl) d_MO_isGood_127 rfl (by decide) (by decide) ?_
                                      exact hT (by unfold nmP wtP; omega)
                                    · skip
                                      refine aw_dload_n d_MO_isGood_106 rfl 2 rfl ?_
                                      refine aw_ldc2d (v := 4613937818241073152) d_MO_isGood_107 mw_867 ?_
                                      refine aw_dcmp d_MO_isGood_110 ?_
                                      refine ad_eq fw.n fF_3.n d_MO_isGood_111 (tgt := 122) (by decide) (fun c70 => ?_) (fun c70 => ?_)
                                      · skip
                                        refine aw_iconst (v := nI 1) d_MO_isGood_122 (by decide) ?_
                                        refine aw_goto (tgt := 127) d_MO_isGood_123 (by decide) ?_
                                        refine aw_zret (Or.inr rfl) d_MO_isGood_127 rfl (by decide) (by decide) ?_
                                        exact hT (by unfold nmP wtP; omega)
                                      · skip
                                        refine aw_dload_n d_MO_isGood_114 rfl 2 rfl ?_
                                        refine aw_ldc2d (v := 4616189618054758400) d_MO_isGood_115 mw_868 ?_
                                        refine aw_dcmp d_MO_isGood_118 ?_
                                        refine ad_ne fw.n fF_4.n d_MO_isGood_119 (tgt := 126) (by decide) (fun c71 => ?_) (fun c71 => ?_)
                                        · skip
                                          refine aw_iconst (v := nI 0) d_MO_isGood_126 (by decide) ?_
                                          refine aw_zret (Or.inl rfl) d_MO_isGood_127 rfl (by decide) (by decide) ?_
                                          exact hF (by unfold nmP wtP; omega)
                                        · skip
                                          refine aw_iconst (v := nI 1) d_MO_isGood_122 (by decide) ?_
                                          refine aw_goto (tgt := 127) d_MO_isGood_123 (by decide) ?_
                                          refine aw_zret (Or.inr rfl) d_MO_isGood_127 rfl (by decide) (by decide) ?_
                                          exact hT (by unfold nmP wtP; omega)
                            · skip
                              exact absurd c65 (by decide)
                · skip
                  refine aw_iload_n d_MO_isGood_51 rfl 1 rfl ?_
                  refine aw_iconst (v := nI 1) d_MO_isGood_52 (by decide) ?_
                  refine aw_bipush (v := nI 24) d_MO_isGood_53 (by decide) ?_
                  refine aw_callS (K' := k_MO_in) (As := [.int (y), .int (nI (1)), .int (nI (24))]) (rest := []) d_MO_isGood_55 rfl cs_MO_54 rfl (Nat.le_of_ble_eq_true rfl) (Nat.le_of_ble_eq_true rfl) (by decide) (by decide) (d' := 0) (w' := 0) (by decide) (by decide) ?_
                  show AW _ _ _ _ _ _ _ [(0, .int (y)), (1, .int (nI (1))), (2, .int (nI (24)))] _ _ _ _ _
                  refine aw_iload_n d_MO_in_0 rfl 0 rfl ?_
                  refine aw_iload_n d_MO_in_1 rfl 1 rfl ?_
                  refine at_lt rfl (nI_toInt (by omega)) (tgt := 14) d_MO_in_2 (by decide) (fun c72 => ?_) (fun c72 => ?_)
                  · skip
                    refine aw_iconst (v := nI 0) d_MO_in_14 (by decide) ?_
                    refine aw_zret (Or.inl rfl) d_MO_in_15 rfl (by decide) (by decide) (ab_go1 ?_)
                    refine aw_if_eqN (tgt := 80) d_MO_isGood_58 (by decide) (by omega) (fun c73 => ?_) (fun c73 => ?_)
                    · skip
                      refine aw_iconst (v := nI 0) d_MO_isGood_80 (by decide) ?_
                      refine aw_zret (Or.inl rfl) d_MO_isGood_81 rfl (by decide) (by decide) ?_
                      exact hF (by unfold nmP wtP; omega)
                    · skip
                      exact absurd c73 (by decide)
                  · skip
                    refine aw_iload_n d_MO_in_5 rfl 0 rfl ?_
                    refine aw_iload_n d_MO_in_6 rfl 2 rfl ?_
                    refine at_gt rfl (nI_toInt (by omega)) (tgt := 14) d_MO_in_7 (by decide) (fun c74 => ?_) (fun c74 => ?_)
                    · skip
                      refine aw_iconst (v := nI 0) d_MO_in_14 (by decide) ?_
                      refine aw_zret (Or.inl rfl) d_MO_in_15 rfl (by decide) (by decide) (ab_go1 ?_)
                      refine aw_if_eqN (tgt := 80) d_MO_isGood_58 (by decide) (by omega) (fun c75 => ?_) (fun c75 => ?_)
                      · skip
                        refine aw_iconst (v := nI 0) d_MO_isGood_80 (by decide) ?_
                        refine aw_zret (Or.inl rfl) d_MO_isGood_81 rfl (by decide) (by decide) ?_
                        exact hF (by unfold nmP wtP; omega)
                      · skip
                        exact absurd c75 (by decide)
                    · skip
                      refine aw_iconst (v := nI 1) d_MO_in_10 (by decide) ?_
                      refine aw_goto (tgt := 15) d_MO_in_11 (by decide) ?_
                      refine aw_zret (Or.inr rfl) d_MO_in_15 rfl (by decide) (by decide) (ab_go1 ?_)
                      refine aw_if_eqN (tgt := 80) d_MO_isGood_58 (by decide) (by omega) (fun c76 => ?_) (fun c76 => ?_)
                      · skip
                        exact absurd c76 (by decide)
                      · skip
                        refine aw_iload_n d_MO_isGood_61 rfl 0 rfl ?_
                        refine aw_iconst (v := nI 5) d_MO_isGood_62 (by decide) ?_
                        refine aw_bipush (v := nI 9) d_MO_isGood_63 (by decide) ?_
                        refine aw_callS (K' := k_MO_in) (As := [.int (x), .int (nI (5)), .int (nI (9))]) (rest := []) d_MO_isGood_65 rfl cs_MO_54 rfl (Nat.le_of_ble_eq_true rfl) (Nat.le_of_ble_eq_true rfl) (by decide) (by decide) (d' := 0) (w' := 0) (by decide) (by decide) ?_
                        show AW _ _ _ _ _ _ _ [(0, .int (x)), (1, .int (nI (5))), (2, .int (nI (9)))] _ _ _ _ _
                        refine aw_iload_n d_MO_in_0 rfl 0 rfl ?_
                        refine aw_iload_n d_MO_in_1 rfl 1 rfl ?_
                        refine at_lt rfl (nI_toInt (by omega)) (tgt := 14) d_MO_in_2 (by decide) (fun c77 => ?_) (fun c77 => ?_)
                        · skip
                          refine aw_iconst (v := nI 0) d_MO_in_14 (by decide) ?_
                          refine aw_zret (Or.inl rfl) d_MO_in_15 rfl (by decide) (by decide) (ab_go1 ?_)
                          refine aw_if_eqN (tgt := 82) d_MO_isGood_68 (by decide) (by omega) (fun c78 => ?_) (fun c78 => ?_)
                          · skip
                            refine aw_iload_n d_MO_isGood_82 rfl 0 rfl ?_
                            refine aw_iconst (v := nI 2) d_MO_isGood_83 (by decide) ?_
                            refine at_lt rfl (nI_toInt (by omega)) (tgt := 122) d_MO_isGood_84 (by decide) (fun c79 => ?_) (fun c79 => ?_)
                            · skip
                              refine aw_iconst (v := nI 1) d_MO_isGood_122 (by decide) ?_
                              refine aw_goto (tgt := 127) d_MO_isGood_123 (by decide) ?_
                              refine aw_zret (Or.inr rfl) d_MO_isGood_127 rfl (by decide) (by decide) ?_
                              exact hT (by unfold nmP wtP; omega)
                            · skip
                              refine aw_iload_n d_MO_isGood_87 rfl 0 rfl ?_
                              refine aw_iconst (v := nI 4) d_MO_isGood_88 (by decide) ?_
                              refine at_gt rfl (nI_toInt (by omega)) (tgt := 122) d_MO_isGood_89 (by decide) (fun c80 => ?_) (fun c80 => ?_)
                              · skip
                                refine aw_iconst (v := nI 1) d_MO_isGood_122 (by decide) ?_
                                refine aw_goto (tgt := 127) d_MO_isGood_123 (by decide) ?_
                                refine aw_zret (Or.inr rfl) d_MO_isGood_127 rfl (by decide) (by decide) ?_
                                exact hT (by unfold nmP wtP; omega)
                              · skip
                                refine aw_dload_n d_MO_isGood_92 rfl 2 rfl ?_
                                refine aw_dconst1 d_MO_isGood_93 ?_
                                refine aw_dcmp d_MO_isGood_94 ?_
                                refine ad_eq fw.n fF_one.n d_MO_isGood_95 (tgt := 122) (by decide) (fun c81 => ?_) (fun c81 => ?_)
                                · skip
                                  refine aw_iconst (v := nI 1) d_MO_isGood_122 (by decide) ?_
                                  refine aw_goto (tgt := 127) d_MO_isGood_123 (by decide) ?_
                                  refine aw_zret (Or.inr rfl) d_MO_isGood_127 rfl (by decide) (by decide) ?_
                                  exact hT (by unfold nmP wtP; omega)
                                · skip
                                  refine aw_dload_n d_MO_isGood_98 rfl 2 rfl ?_
                                  refine aw_ldc2d (v := 4611686018427387904) d_MO_isGood_99 mw_774 ?_
                                  refine aw_dcmp d_MO_isGood_102 ?_
                                  refine ad_eq fw.n fF_2.n d_MO_isGood_103 (tgt := 122) (by decide) (fun c82 => ?_) (fun c82 => ?_)
                                  · skip
                                    refine aw_iconst (v := nI 1) d_MO_isGood_122 (by decide) ?_
                                    refine aw_goto (tgt := 127) d_MO_isGood_123 (by decide) ?_
                                    refine aw_zret (Or.inr rfl) d_MO_isGood_127 rfl (by decide) (by decide) ?_
                                    exact hT (by unfold nmP wtP; omega)
                                  · skip
                                    refine aw_dload_n d_MO_isGood_106 rfl 2 rfl ?_
                                    refine aw_ldc2d (v := 4613937818241073152) d_MO_isGood_107 mw_867 ?_
                                    refine aw_dcmp d_MO_isGood_110 ?_
                                    refine ad_eq fw.n fF_3.n d_MO_isGood_111 (tgt := 122) (by decide) (fun c83 => ?_) (fun c83 => ?_)
                                    · skip
                                      refine aw_iconst (v := nI 1) d_MO_isGood_122 (by decide) ?_
                                      refine aw_goto (tgt := 127) d_MO_isGood_123 (by decide) ?_
                                      refine aw_zret (Or.inr rfl) d_MO_isGood_127 rfl (by decide) (by decide) ?_
                                      exact hT (by unfold nmP wtP; omega)
                                    · skip
                                      refine aw_dload_n d_MO_isGood_114 rfl 2 rfl ?_
                                      refine aw_ldc2d (v := 4616189618054758400) d_MO_isGood_115 mw_868 ?_
                                      refine aw_dcmp d_MO_isGood_118 ?_
                                      refine ad_ne fw.n fF_4.n d_MO_isGood_119 (tgt := 126) (by decide) (fun c84 => ?_) (fun c84 => ?_)
                                      · skip
                                        refine aw_iconst (v := nI 0) d_MO_isGood_126 (by decide) ?_
                                        refine aw_zret (Or.inl rfl) d_MO_isGood_127 rfl (by decide) (by decide) ?_
                                        exact hF (by unfold nmP wtP; omega)
                                      · skip
                                        refine aw_iconst (v := nI 1) d_MO_isGood_122 (by decide) ?_
                                        refine aw_goto (tgt := 127) d_MO_isGood_123 (by decide) ?_
                                        refine aw_zret (Or.inr rfl) d_MO_isGood_127 rfl (by decide) (by decide) ?_
                                        exact hT (by unfold nmP wtP; omega)
                          · skip
                            exact absurd c78 (by decide)
                        · skip
                          refine aw_iload_n d_MO_in_5 rfl 0 rfl ?_
                          refine aw_iload_n d_MO_in_6 rfl 2 rfl ?_
                          refine at_gt rfl (nI_toInt (by omega)) (tgt := 14) d_MO_in_7 (by decide) (fun c85 => ?_) (fun c85 => ?_)
                          · skip
                            refine aw_iconst (v := nI 0) d_MO_in_14 (by decide) ?_
                            refine aw_zret (Or.inl rfl) d_MO_in_15 rfl (by decide) (by decide) (ab_go1 ?_)
                            refine aw_if_eqN (tgt := 82) d_MO_isGood_68 (by decide) (by omega) (fun c86 => ?_) (fun c86 => ?_)
                            · skip
                              refine aw_iload_n d_MO_isGood_82 rfl 0 rfl ?_
                              refine aw_iconst (v := nI 2) d_MO_isGood_83 (by decide) ?_
                              refine at_lt rfl (nI_toInt (by omega)) (tgt := 122) d_MO_isGood_84 (by decide) (fun c87 => ?_) (fun c87 => ?_)
                              · skip
                                refine aw_iconst (v := nI 1) d_MO_isGood_122 (by decide) ?_
                                refine aw_goto (tgt := 127) d_MO_isGood_123 (by decide) ?_
                                refine aw_zret (Or.inr rfl) d_MO_isGood_127 rfl (by decide) (by decide) ?_
                                exact hT (by unfold nmP wtP; omega)
                              · skip
                                refine aw_iload_n d_MO_isGood_87 rfl 0 rfl ?_
                                refine aw_iconst (v := nI 4) d_MO_isGood_88 (by decide) ?_
                                refine at_gt rfl (nI_toInt (by omega)) (tgt := 122) d_MO_isGood_89 (by decide) (fun c88 => ?_) (fun c88 => ?_)
                                · skip
                                  refine aw_iconst (v := nI 1) d_MO_isGood_122 (by decide) ?_
                                  refine aw_goto (tgt := 127) d_MO_isGood_123 (by decide) ?_
                                  refine aw_zret (Or.inr rfl) d_MO_isGood_127 rfl (by decide) (by decide) ?_
                                  exact hT (by unfold nmP wtP; omega)
                                · skip
                                  refine aw_dload_n d_MO_isGood_92 rfl 2 rfl ?_
                                  refine aw_dconst1 d_MO_isGood_93 ?_
                                  refine aw_dcmp d_MO_isGood_94 ?_
                                  refine ad_eq fw.n fF_one.n d_MO_isGood_95 (tgt := 122) (by decide) (fun c89 => ?_) (fun c89 => ?_)
                                  · skip
                                    refine aw_iconst (v := nI 1) d_MO_isGood_122 (by decide) ?_
                                    refine aw_goto (tgt := 127) d_MO_isGood_123 (by decide) ?_
                                    refine aw_zret (Or.inr rfl) d_MO_isGood_127 rfl (by decide) (by decide) ?_
                                    exact hT (by unfold nmP wtP; omega)
                                  · skip
                                    refine aw_dload_n d_MO_isGood_98 rfl 2 rfl ?_
                                    refine aw_ldc2d (v := 4611686018427387904) d_MO_isGood_99 mw_774 ?_
                                    refine aw_dcmp d_MO_isGood_102 ?_
                                    refine ad_eq fw.n fF_2.n d_MO_isGood_103 (tgt := 122) (by decide) (fun c90 => ?_) (fun c90 => ?_)
                                    · skip
                                      refine aw_iconst (v := nI 1) d_MO_isGood_122 (by decide) ?_
                                      refine aw_goto (tgt := 127) d_MO_isGood_123 (by decide) ?_
                                      refine aw_zret (Or.inr rfl) d_MO_isGood_127 rfl (by decide) (by decide) ?_
                                      exact hT (by unfold nmP wtP; omega)
                                    · skip
                                      refine aw_dload_n d_MO_isGood_106 rfl 2 rfl ?_
                                      refine aw_ldc2d (v := 4613937818241073152) d_MO_isGood_107 mw_867 ?_
                                      refine aw_dcmp d_MO_isGood_110 ?_
                                      refine ad_eq fw.n fF_3.n d_MO_isGood_111 (tgt := 122) (by decide) (fun c91 => ?_) (fun c91 => ?_)
                                      · skip
                                        refine aw_iconst (v := nI 1) d_MO_isGood_122 (by decide) ?_
                                        refine aw_goto (tgt := 127) d_MO_isGood_123 (by decide) ?_
                                        refine aw_zret (Or.inr rfl) d_MO_isGood_127 rfl (by decide) (by decide) ?_
                                        exact hT (by unfold nmP wtP; omega)
                                      · skip
                                        refine aw_dload_n d_MO_isGood_114 rfl 2 rfl ?_
                                        refine aw_ldc2d (v := 4616189618054758400) d_MO_isGood_115 mw_868 ?_
                                        refine aw_dcmp d_MO_isGood_118 ?_
                                        refine ad_ne fw.n fF_4.n d_MO_isGood_119 (tgt := 126) (by decide) (fun c92 => ?_) (fun c92 => ?_)
                                        · skip
                                          refine aw_iconst (v := nI 0) d_MO_isGood_126 (by decide) ?_
                                          refine aw_zret (Or.inl rfl) d_MO_isGood_127 rfl (by decide) (by decide) ?_
                                          exact hF (by unfold nmP wtP; omega)
                                        · skip
                                          refine aw_iconst (v := nI 1) d_MO_isGood_122 (by decide) ?_
                                          refine aw_goto (tgt := 127) d_MO_isGood_123 (by decide) ?_
                                          refine aw_zret (Or.inr rfl) d_MO_isGood_127 rfl (by decide) (by decide) ?_
                                          exact hT (by unfold nmP wtP; omega)
                            · skip
                              exact absurd c86 (by decide)
                          · skip
                            refine aw_iconst (v := nI 1) d_MO_in_10 (by decide) ?_
                            refine aw_goto (tgt := 15) d_MO_in_11 (by decide) ?_
                            refine aw_zret (Or.inr rfl) d_MO_in_15 rfl (by decide) (by decide) (ab_go1 ?_)
                            refine aw_if_eqN (tgt := 82) d_MO_isGood_68 (by decide) (by omega) (fun c93 => ?_) (fun c93 => ?_)
                            · skip
                              exact absurd c93 (by decide)
                            · skip
                              refine aw_iload_n d_MO_isGood_71 rfl 1 rfl ?_
                              refine aw_iconst (v := nI 1) d_MO_isGood_72 (by decide) ?_
                              refine aw_iconst (v := nI 4) d_MO_isGood_73 (by decide) ?_
                              refine aw_callS (K' := k_MO_in) (As := [.int (y), .int (nI (1)), .int (nI (4))]) (rest := []) d_MO_isGood_74 rfl cs_MO_54 rfl (Nat.le_of_ble_eq_true rfl) (Nat.le_of_ble_eq_true rfl) (by decide) (by decide) (d' := 0) (w' := 0) (by decide) (by decide) ?_
                              show AW _ _ _ _ _ _ _ [(0, .int (y)), (1, .int (nI (1))), (2, .int (nI (4)))] _ _ _ _ _
                              refine aw_iload_n d_MO_in_0 rfl 0 rfl ?_
                              refine aw_iload_n d_MO_in_1 rfl 1 rfl ?_
                              refine at_lt rfl (nI_toInt (by omega)) (tgt := 14) d_MO_in_2 (by decide) (fun c94 => ?_) (fun c94 => ?_)
                              · skip
                                refine aw_iconst (v := nI 0) d_MO_in_14 (by decide) ?_
                                refine aw_zret (Or.inl rfl) d_MO_in_15 rfl (by decide) (by decide) (ab_go1 ?_)
                                refine aw_if_neN (tgt := 82) d_MO_isGood_77 (by decide) (by omega) (fun c95 => ?_) (fun c95 => ?_)
                                · skip
                                  exact absurd c95 (by decide)
                                · skip
                                  refine aw_iconst (v := nI 0) d_MO_isGood_80 (by decide) ?_
                                  refine aw_zret (Or.inl rfl) d_MO_isGood_81 rfl (by decide) (by decide) ?_
                                  exact hF (by unfold nmP wtP; omega)
                              · skip
                                refine aw_iload_n d_MO_in_5 rfl 0 rfl ?_
                                refine aw_iload_n d_MO_in_6 rfl 2 rfl ?_
                                refine at_gt rfl (nI_toInt (by omega)) (tgt := 14) d_MO_in_7 (by decide) (fun c96 => ?_) (fun c96 => ?_)
                                · skip
                                  refine aw_iconst (v := nI 0) d_MO_in_14 (by decide) ?_
                                  refine aw_zret (Or.inl rfl) d_MO_in_15 rfl (by decide) (by decide) (ab_go1 ?_)
                                  refine aw_if_neN (tgt := 82) d_MO_isGood_77 (by decide) (by omega) (fun c97 => ?_) (fun c97 => ?_)
                                  · skip
                                    exact absurd c97 (by decide)
                                  · skip
                                    refine aw_iconst (v := nI 0) d_MO_isGood_80 (by decide) ?_
                                    refine aw_zret (Or.inl rfl) d_MO_isGood_81 rfl (by decide) (by decide) ?_
                                    exact hF (by unfold nmP wtP; omega)
                                · skip
                                  refine aw_iconst (v := nI 1) d_MO_in_10 (by decide) ?_
                                  refine aw_goto (tgt := 15) d_MO_in_11 (by decide) ?_
                                  refine aw_zret (Or.inr rfl) d_MO_in_15 rfl (by decide) (by decide) (ab_go1 ?_)
                                  refine aw_if_neN (tgt := 82) d_MO_isGood_77 (by decide) (by omega) (fun c98 => ?_) (fun c98 => ?_)
                                  · skip
                                    refine aw_iload_n d_MO_isGood_82 rfl 0 rfl ?_
                                    refine aw_iconst (v := nI 2) d_MO_isGood_83 (by decide) ?_
                                    refine at_lt rfl (nI_toInt (by omega)) (tgt := 122) d_MO_isGood_84 (by decide) (fun c99 => ?_) (fun c99 => ?_)
                                    · skip
                                      refine aw_iconst (v := nI 1) d_MO_isGood_122 (by decide) ?_
                                      refine aw_goto (tgt := 127) d_MO_isGood_123 (by decide) ?_
                                      refine aw_zret (Or.inr rfl) d_MO_isGood_127 rfl (by decide) (by decide) ?_
                                      exact hT (by unfold nmP wtP; omega)
                                    · skip
                                      refine aw_iload_n d_MO_isGood_87 rfl 0 rfl ?_
                                      refine aw_iconst (v := nI 4) d_MO_isGood_88 (by decide) ?_
                                      refine at_gt rfl (nI_toInt (by omega)) (tgt := 122) d_MO_isGood_89 (by decide) (fun c100 => ?_) (fun c100 => ?_)
                                      · skip
                                        refine aw_iconst (v := nI 1) d_MO_isGood_122 (by decide) ?_
                                        refine aw_goto (tgt := 127) d_MO_isGood_123 (by decide) ?_
                                        refine aw_zret (Or.inr rfl) d_MO_isGood_127 rfl (by decide) (by decide) ?_
                                        exact hT (by unfold nmP wtP; omega)
                                      · skip
                                        refine aw_dload_n d_MO_isGood_92 rfl 2 rfl ?_
                                        refine aw_dconst1 d_MO_isGood_93 ?_
                                        refine aw_dcmp d_MO_isGood_94 ?_
                                        refine ad_eq fw.n fF_one.n d_MO_isGood_95 (tgt := 122) (by decide) (fun c101 => ?_) (fun c101 => ?_)
                                        · skip
                                          refine aw_iconst (v := nI 1) d_MO_isGood_122 (by decide) ?_
                                          refine aw_goto (tgt := 127) d_MO_isGood_123 (by decide) ?_
                                          refine aw_zret (Or.inr rfl) d_MO_isGood_127 rfl (by decide) (by decide) ?_
                                          exact hT (by unfold nmP wtP; omega)
                                        · skip
                                          refine aw_dload_n d_MO_isGood_98 rfl 2 rfl ?_
                                          refine aw_ldc2d (v := 4611686018427387904) d_MO_isGood_99 mw_774 ?_
                                          refine aw_dcmp d_MO_isGood_102 ?_
                                          refine ad_eq fw.n fF_2.n d_MO_isGood_103 (tgt := 122) (by decide) (fun c102 => ?_) (fun c102 => ?_)
                                          · skip
                                            refine aw_iconst (v := nI 1) d_MO_isGood_122 (by decide) ?_
                                            refine aw_goto (tgt := 127) d_MO_isGood_123 (by decide) ?_
                                            refine aw_zret (Or.inr rfl) d_MO_isGood_127 rfl (by decide) (by decide) ?_
                                            exact hT (by unfold nmP wtP; omega)
                                          · skip
                                            refine aw_dload_n d_MO_isGood_106 rfl 2 rfl ?_
                                            refine aw_ldc2d (v := 4613937818241073152) d_MO_isGood_107 mw_867 ?_
                                            refine aw_dcmp d_MO_isGood_110 ?_
                                            refine ad_eq fw.n fF_3.n d_MO_isGood_111 (tgt := 122) (by decide) (fun c103 => ?_) (fun c103 => ?_)
                                            · skip
                                              refine aw_iconst (v := nI 1) d_MO_isGood_122 (by decide) ?_
                                              refine aw_goto (tgt := 127) d_MO_isGood_123 (by decide) ?_
                                              refine aw_zret (Or.inr rfl) d_MO_isGood_127 rfl (by decide) (by decide) ?_
                                              exact hT (by unfold nmP wtP; omega)
                                            · skip
                                              refine aw_dload_n d_MO_isGood_114 rfl 2 rfl ?_
                                              refine aw_ldc2d (v := 4616189618054758400) d_MO_isGood_115 mw_868 ?_
                                              refine aw_dcmp d_MO_isGood_118 ?_
                                              refine ad_ne fw.n fF_4.n d_MO_isGood_119 (tgt := 126) (by decide) (fun c104 => ?_) (fun c104 => ?_)
                                              · skip
                                                refine aw_iconst (v := nI 0) d_MO_isGood_126 (by decide) ?_
                                                refine aw_zret (Or.inl rfl) d_MO_isGood_127 rfl (by decide) (by decide) ?_
                                                exact hF (by unfold nmP wtP; omega)
                                              · skip
                                                refine aw_iconst (v := nI 1) d_MO_isGood_122 (by decide) ?_
                                                refine aw_goto (tgt := 127) d_MO_isGood_123 (by decide) ?_
                                                refine aw_zret (Or.inr rfl) d_MO_isGood_127 rfl (by decide) (by decide) ?_
                                                exact hT (by unfold nmP wtP; omega)
                                  · skip
                                    exact absurd c98 (by decide)
            · skip
              refine aw_iload_n d_MO_isGood_31 rfl 1 rfl ?_
              refine aw_iconst (v := nI 0) d_MO_isGood_32 (by decide) ?_
              refine aw_bipush (v := nI 15) d_MO_isGood_33 (by decide) ?_
              refine aw_callS (K' := k_MO_in) (As := [.int (y), .int (nI (0)), .int (nI (15))]) (rest := []) d_MO_isGood_35 rfl cs_MO_54 rfl (Nat.le_of_ble_eq_true rfl) (Nat.le_of_ble_eq_true rfl) (by decide) (by decide) (d' := 0) (w' := 0) (by decide) (by decide) ?_
              show AW _ _ _ _ _ _ _ [(0, .int (y)), (1, .int (nI (0))), (2, .int (nI (15)))] _ _ _ _ _
              refine aw_iload_n d_MO_in_0 rfl 0 rfl ?_
              refine aw_iload_n d_MO_in_1 rfl 1 rfl ?_
              refine at_lt rfl (nI_toInt (by omega)) (tgt := 14) d_MO_in_2 (by decide) (fun c105 => ?_) (fun c105 => ?_)
              · skip
                refine aw_iconst (v := nI 0) d_MO_in_14 (by decide) ?_
                refine aw_zret (Or.inl rfl) d_MO_in_15 rfl (by decide) (by decide) (ab_go1 ?_)
                refine aw_if_eqN (tgt := 80) d_MO_isGood_38 (by decide) (by omega) (fun c106 => ?_) (fun c106 => ?_)
                · skip
                  refine aw_iconst (v := nI 0) d_MO_isGood_80 (by decide) ?_
                  refine aw_zret (Or.inl rfl) d_MO_isGood_81 rfl (by decide) (by decide) ?_
                  exact hF (by unfold nmP wtP; omega)
                · skip
                  exact absurd c106 (by decide)
              · skip
                refine aw_iload_n d_MO_in_5 rfl 0 rfl ?_
                refine aw_iload_n d_MO_in_6 rfl 2 rfl ?_
                refine at_gt rfl (nI_toInt (by omega)) (tgt := 14) d_MO_in_7 (by decide) (fun c107 => ?_) (fun c107 => ?_)
                · skip
                  refine aw_iconst (v := nI 0) d_MO_in_14 (by decide) ?_
                  refine aw_zret (Or.inl rfl) d_MO_in_15 rfl (by decide) (by decide) (ab_go1 ?_)
                  refine aw_if_eqN (tgt := 80) d_MO_isGood_38 (by decide) (by omega) (fun c108 => ?_) (fun c108 => ?_)
                  · skip
                    refine aw_iconst (v := nI 0) d_MO_isGood_80 (by decide) ?_
                    refine aw_zret (Or.inl rfl) d_MO_isGood_81 rfl (by decide) (by decide) ?_
                    exact hF (by unfold nmP wtP; omega)
                  · skip
                    exact absurd c108 (by decide)
                · skip
                  refine aw_iconst (v := nI 1) d_MO_in_10 (by decide) ?_
                  refine aw_goto (tgt := 15) d_MO_in_11 (by decide) ?_
                  refine aw_zret (Or.inr rfl) d_MO_in_15 rfl (by decide) (by decide) (ab_go1 ?_)
                  refine aw_if_eqN (tgt := 80) d_MO_isGood_38 (by decide) (by omega) (fun c109 => ?_) (fun c109 => ?_)
                  · skip
                    exact absurd c109 (by decide)
                  · skip
                    refine aw_iload_n d_MO_isGood_41 rfl 0 rfl ?_
                    refine aw_iconst (v := nI 2) d_MO_isGood_42 (by decide) ?_
                    refine at_eq rfl (nI_toInt (by omega)) (tgt := 51) d_MO_isGood_43 (by decide) (fun c110 => ?_) (fun c110 => ?_)
                    · skip
                      refine aw_iload_n d_MO_isGood_51 rfl 1 rfl ?_
                      refine aw_iconst (v := nI 1) d_MO_isGood_52 (by decide) ?_
                      refine aw_bipush (v := nI 24) d_MO_isGood_53 (by decide) ?_
                      refine aw_callS (K' := k_MO_in) (As := [.int (y), .int (nI (1)), .int (nI (24))]) (rest := []) d_MO_isGood_55 rfl cs_MO_54 rfl (Nat.le_of_ble_eq_true rfl) (Nat.le_of_ble_eq_true rfl) (by decide) (by decide) (d' := 0) (w' := 0) (by decide) (by decide) ?_
                      show AW _ _ _ _ _ _ _ [(0, .int (y)), (1, .int (nI (1))), (2, .int (nI (24)))] _ _ _ _ _
                      refine aw_iload_n d_MO_in_0 rfl 0 rfl ?_
                      refine aw_iload_n d_MO_in_1 rfl 1 rfl ?_
                      refine at_lt rfl (nI_toInt (by omega)) (tgt := 14) d_MO_in_2 (by decide) (fun c111 => ?_) (fun c111 => ?_)
                      · skip
                        refine aw_iconst (v := nI 0) d_MO_in_14 (by decide) ?_
                        refine aw_zret (Or.inl rfl) d_MO_in_15 rfl (by decide) (by decide) (ab_go1 ?_)
                        refine aw_if_eqN (tgt := 80) d_MO_isGood_58 (by decide) (by omega) (fun c112 => ?_) (fun c112 => ?_)
                        · skip
                          refine aw_iconst (v := nI 0) d_MO_isGood_80 (by decide) ?_
                          refine aw_zret (Or.inl rfl) d_MO_isGood_81 rfl (by decide) (by decide) ?_
                          exact hF (by unfold nmP wtP; omega)
                        · skip
                          exact absurd c112 (by decide)
                      · skip
                        refine aw_iload_n d_MO_in_5 rfl 0 rfl ?_
                        refine aw_iload_n d_MO_in_6 rfl 2 rfl ?_
                        refine at_gt rfl (nI_toInt (by omega)) (tgt := 14) d_MO_in_7 (by decide) (fun c113 => ?_) (fun c113 => ?_)
                        · skip
                          refine aw_iconst (v := nI 0) d_MO_in_14 (by decide) ?_
                          refine aw_zret (Or.inl rfl) d_MO_in_15 rfl (by decide) (by decide) (ab_go1 ?_)
                          refine aw_if_eqN (tgt := 80) d_MO_isGood_58 (by decide) (by omega) (fun c114 => ?_) (fun c114 => ?_)
                          · skip
                            refine aw_iconst (v := nI 0) d_MO_isGood_80 (by decide) ?_
                            refine aw_zret (Or.inl rfl) d_MO_isGood_81 rfl (by decide) (by decide) ?_
                            exact hF (by unfold nmP wtP; omega)
                          · skip
                            exact absurd c114 (by decide)
                        · skip
                          refine aw_iconst (v := nI 1) d_MO_in_10 (by decide) ?_
                          refine aw_goto (tgt := 15) d_MO_in_11 (by decide) ?_
                          refine aw_zret (Or.inr rfl) d_MO_in_15 rfl (by decide) (by decide) (ab_go1 ?_)
                          refine aw_if_eqN (tgt := 80) d_MO_isGood_58 (by decide) (by omega) (fun c115 => ?_) (fun c115 => ?_)
                          · skip
                            exact absurd c115 (by decide)
                          · skip
                            refine aw_iload_n d_MO_isGood_61 rfl 0 rfl ?_
                            refine aw_iconst (v := nI 5) d_MO_isGood_62 (by decide) ?_
                            refine aw_bipush (v := nI 9) d_MO_isGood_63 (by decide) ?_
                            refine aw_callS (K' := k_MO_in) (As := [.int (x), .int (nI (5)), .int (nI (9))]) (rest := []) d_MO_isGood_65 rfl cs_MO_54 rfl (Nat.le_of_ble_eq_true rfl) (Nat.le_of_ble_eq_true rfl) (by decide) (by decide) (d' := 0) (w' := 0) (by decide) (by decide) ?_
                            show AW _ _ _ _ _ _ _ [(0, .int (x)), (1, .int (nI (5))), (2, .int (nI (9)))] _ _ _ _ _
                            refine aw_iload_n d_MO_in_0 rfl 0 rfl ?_
                            refine aw_iload_n d_MO_in_1 rfl 1 rfl ?_
                            refine at_lt rfl (nI_toInt (by omega)) (tgt := 14) d_MO_in_2 (by decide) (fun c116 => ?_) (fun c116 => ?_)
                            · skip
                              refine aw_iconst (v := nI 0) d_MO_in_14 (by decide) ?_
                              refine aw_zret (Or.inl rfl) d_MO_in_15 rfl (by decide) (by decide) (ab_go1 ?_)
                              refine aw_if_eqN (tgt := 82) d_MO_isGood_68 (by decide) (by omega) (fun c117 => ?_) (fun c117 => ?_)
                              · skip
                                refine aw_iload_n d_MO_isGood_82 rfl 0 rfl ?_
                                refine aw_iconst (v := nI 2) d_MO_isGood_83 (by decide) ?_
                                refine at_lt rfl (nI_toInt (by omega)) (tgt := 122) d_MO_isGood_84 (by decide) (fun c118 => ?_) (fun c118 => ?_)
                                · skip
                                  refine aw_iconst (v := nI 1) d_MO_isGood_122 (by decide) ?_
                                  refine aw_goto (tgt := 127) d_MO_isGood_123 (by decide) ?_
                                  refine aw_zret (Or.inr rfl) d_MO_isGood_127 rfl (by decide) (by decide) ?_
                                  exact hT (by unfold nmP wtP; omega)
                                · skip
                                  refine aw_iload_n d_MO_isGood_87 rfl 0 rfl ?_
                                  refine aw_iconst (v := nI 4) d_MO_isGood_88 (by decide) ?_
                                  refine at_gt rfl (nI_toInt (by omega)) (tgt := 122) d_MO_isGood_89 (by decide) (fun c119 => ?_) (fun c119 => ?_)
                                  · skip
                                    refine aw_iconst (v := nI 1) d_MO_isGood_122 (by decide) ?_
                                    refine aw_goto (tgt := 127) d_MO_isGood_123 (by decide) ?_
                                    refine aw_zret (Or.inr rfl) d_MO_isGood_127 rfl (by decide) (by decide) ?_
                                    exact hT (by unfold nmP wtP; omega)
                                  · skip
                                    refine aw_dload_n d_MO_isGood_92 rfl 2 rfl ?_
                                    refine aw_dconst1 d_MO_isGood_93 ?_
                                    refine aw_dcmp d_MO_isGood_94 ?_
                                    refine ad_eq fw.n fF_one.n d_MO_isGood_95 (tgt := 122) (by decide) (fun c120 => ?_) (fun c120 => ?_)
                                    · skip
                                      refine aw_iconst (v := nI 1) d_MO_isGood_122 (by decide) ?_
                                      refine aw_goto (tgt := 127) d_MO_isGood_123 (by decide) ?_
                                      refine aw_zret (Or.inr rfl) d_MO_isGood_127 rfl (by decide) (by decide) ?_
                                      exact hT (by unfold nmP wtP; omega)
                                    · skip
                                      refine aw_dload_n d_MO_isGood_98 rfl 2 rfl ?_
                                      refine aw_ldc2d (v := 4611686018427387904) d_MO_isGood_99 mw_774 ?_
                                      refine aw_dcmp d_MO_isGood_102 ?_
                                      refine ad_eq fw.n fF_2.n d_MO_isGood_103 (tgt := 122) (by decide) (fun c121 => ?_) (fun c121 => ?_)
                                      · skip
                                        refine aw_iconst (v := nI 1) d_MO_isGood_122 (by decide) ?_
                                        refine aw_goto (tgt := 127) d_MO_isGood_123 (by decide) ?_
                                        refine aw_zret (Or.inr rfl) d_MO_isGood_127 rfl (by decide) (by decide) ?_
                                        exact hT (by unfold nmP wtP; omega)
                                      · skip
                                        refine aw_dload_n d_MO_isGood_106 rfl 2 rfl ?_
                                        refine aw_ldc2d (v := 4613937818241073152) d_MO_isGood_107 mw_867 ?_
                                        refine aw_dcmp d_MO_isGood_110 ?_
                                        refine ad_eq fw.n fF_3.n d_MO_isGood_111 (tgt := 122) (by decide) (fun c122 => ?_) (fun c122 => ?_)
                                        · skip
                                          refine aw_iconst (v := nI 1) d_MO_isGood_122 (by decide) ?_
                                          refine aw_goto (tgt := 127) d_MO_isGood_123 (by decide) ?_
                                          refine aw_zret (Or.inr rfl) d_MO_isGood_127 rfl (by decide) (by decide) ?_
                                          exact hT (by unfold nmP wtP; omega)
                                        · skip
                                          refine aw_dload_n d_MO_isGood_114 rfl 2 rfl ?_
                                          refine aw_ldc2d (v := 4616189618054758400) d_MO_isGood_115 mw_868 ?_
                                          refine aw_dcmp d_MO_isGood_118 ?_
                                          refine ad_ne fw.n fF_4.n d_MO_isGood_119 (tgt := 126) (by decide) (fun c123 => ?_) (fun c123 => ?_)
                                          · skip
                                            refine aw_iconst (v := nI 0) d_MO_isGood_126 (by decide) ?_
                                            refine aw_zret (Or.inl rfl) d_MO_isGood_127 rfl (by decide) (by decide) ?_
                                            exact hF (by unfold nmP wtP; omega)
                                          · skip
                                            refine aw_iconst (v := nI 1) d_MO_isGood_122 (by decide) ?_
                                            refine aw_goto (tgt := 127) d_MO_isGood_123 (by decide) ?_
                                            refine aw_zret (Or.inr rfl) d_MO_isGood_127 rfl (by decide) (by decide) ?_
                                            exact hT (by unfold nmP wtP; omega)
                              · skip
                                exact absurd c117 (by decide)
                            · skip
                              refine aw_iload_n d_MO_in_5 rfl 0 rfl ?_
                              refine aw_iload_n d_MO_in_6 rfl 2 rfl ?_
                              refine at_gt rfl (nI_toInt (by omega)) (tgt := 14) d_MO_in_7 (by decide) (fun c124 => ?_) (fun c124 => ?_)
                              · skip
                                refine aw_iconst (v := nI 0) d_MO_in_14 (by decide) ?_
                                refine aw_zret (Or.inl rfl) d_MO_in_15 rfl (by decide) (by decide) (ab_go1 ?_)
                                refine aw_if_eqN (tgt := 82) d_MO_isGood_68 (by decide) (by omega) (fun c125 => ?_) (fun c125 => ?_)
                                · skip
                                  refine aw_iload_n d_MO_isGood_82 rfl 0 rfl ?_
                                  refine aw_iconst (v := nI 2) d_MO_isGood_83 (by decide) ?_
                                  refine at_lt rfl (nI_toInt (by omega)) (tgt := 122) d_MO_isGood_84 (by decide) (fun c126 => ?_) (fun c126 => ?_)
                                  · skip
                                    refine aw_iconst (v := nI 1) d_MO_isGood_122 (by decide) ?_
                                    refine aw_goto (tgt := 127) d_MO_isGood_123 (by decide) ?_
                                    refine aw_zret (Or.inr rfl) d_MO_isGood_127 rfl (by decide) (by decide) ?_
                                    exact hT (by unfold nmP wtP; omega)
                                  · skip
                                    refine aw_iload_n d_MO_isGood_87 rfl 0 rfl ?_
                                    refine aw_iconst (v := nI 4) d_MO_isGood_88 (by decide) ?_
                                    refine at_gt rfl (nI_toInt (by omega)) (tgt := 122) d_MO_isGood_89 (by decide) (fun c127 => ?_) (fun c127 => ?_)
                                    · skip
                                      refine aw_iconst (v := nI 1) d_MO_isGood_122 (by decide) ?_
                                      refine aw_goto (tgt := 127) d_MO_isGood_123 (by decide) ?_
                                      refine aw_zret (Or.inr rfl) d_MO_isGood_127 rfl (by decide) (by decide) ?_
                                      exact hT (by unfold nmP wtP; omega)
                                    · skip
                                      refine aw_dload_n d_MO_isGood_92 rfl 2 rfl ?_
                                      refine aw_dconst1 d_MO_isGood_93 ?_
                                      refine aw_dcmp d_MO_isGood_94 ?_
                                      refine ad_eq fw.n fF_one.n d_MO_isGood_95 (tgt := 122) (by decide) (fun c128 => ?_) (fun c128 => ?_)
                                      · skip
                                        refine aw_iconst (v := nI 1) d_MO_isGood_122 (by decide) ?_
                                        refine aw_goto (tgt := 127) d_MO_isGood_123 (by decide) ?_
                                        refine aw_zret (Or.inr rfl) d_MO_isGood_127 rfl (by decide) (by decide) ?_
                                        exact hT (by unfold nmP wtP; omega)
                                      · skip
                                        refine aw_dload_n d_MO_isGood_98 rfl 2 rfl ?_
                                        refine aw_ldc2d (v := 4611686018427387904) d_MO_isGood_99 mw_774 ?_
                                        refine aw_dcmp d_MO_isGood_102 ?_
                                        refine ad_eq fw.n fF_2.n d_MO_isGood_103 (tgt := 122) (by decide) (fun c129 => ?_) (fun c129 => ?_)
                                        · skip
                                          refine aw_iconst (v := nI 1) d_MO_isGood_122 (by decide) ?_
                                          refine aw_goto (tgt := 127) d_MO_isGood_123 (by decide) ?_
                                          refine aw_zret (Or.inr rfl) d_MO_isGood_127 rfl (by decide) (by decide) ?_
                                          exact hT (by unfold nmP wtP; omega)
                                        · skip
                                          refine aw_dload_n d_MO_isGood_106 rfl 2 rfl ?_
                                          refine aw_ldc2d (v := 4613937818241073152) d_MO_isGood_107 mw_867 ?_
                                          refine aw_dcmp d_MO_isGood_110 ?_
                                          refine ad_eq fw.n fF_3.n d_MO_isGood_111 (tgt := 122) (by decide) (fun c130 => ?_) (fun c130 => ?_)
                                          · skip
                                            refine aw_iconst (v := nI 1) d_MO_isGood_122 (by decide) ?_
                                            refine aw_goto (tgt := 127) d_MO_isGood_123 (by decide) ?_
                                            refine aw_zret (Or.inr rfl) d_MO_isGood_127 rfl (by decide) (by decide) ?_
                                            exact hT (by unfold nmP wtP; omega)
                                          · skip
                                            refine aw_dload_n d_MO_isGood_114 rfl 2 rfl ?_
                                            refine aw_ldc2d (v := 4616189618054758400) d_MO_isGood_115 mw_868 ?_
                                            refine aw_dcmp d_MO_isGood_118 ?_
                                            refine ad_ne fw.n fF_4.n d_MO_isGood_119 (tgt := 126) (by decide) (fun c131 => ?_) (fun c131 => ?_)
                                            · skip
                                              refine aw_iconst (v := nI 0) d_MO_isGood_126 (by decide) ?_
                                              refine aw_zret (Or.inl rfl) d_MO_isGood_127 rfl (by decide) (by decide) ?_
                                              exact hF (by unfold nmP wtP; omega)
                                            · skip
                                              refine aw_iconst (v := nI 1) d_MO_isGood_122 (by decide) ?_
                                              refine aw_goto (tgt := 127) d_MO_isGood_123 (by decide) ?_
                                              refine aw_zret (Or.inr rfl) d_MO_isGood_127 rfl (by decide) (by decide) ?_
                                              exact hT (by unfold nmP wtP; omega)
                                · skip
                                  exact absurd c125 (by decide)
                              · skip
                                refine aw_iconst (v := nI 1) d_MO_in_10 (by decide) ?_
                                refine aw_goto (tgt := 15) d_MO_in_11 (by decide) ?_
                                refine aw_zret (Or.inr rfl) d_MO_in_15 rfl (by decide) (by decide) (ab_go1 ?_)
                                refine aw_if_eqN (tgt := 82) d_MO_isGood_68 (by decide) (by omega) (fun c132 => ?_) (fun c132 => ?_)
                                · skip
                                  exact absurd c132 (by decide)
                                · skip
                                  refine aw_iload_n d_MO_isGood_71 rfl 1 rfl ?_
                                  refine aw_iconst (v := nI 1) d_MO_isGood_72 (by decide) ?_
                                  refine aw_iconst (v := nI 4) d_MO_isGood_73 (by decide) ?_
                                  refine aw_callS (K' := k_MO_in) (As := [.int (y), .int (nI (1)), .int (nI (4))]) (rest := []) d_MO_isGood_74 rfl cs_MO_54 rfl (Nat.le_of_ble_eq_true rfl) (Nat.le_of_ble_eq_true rfl) (by decide) (by decide) (d' := 0) (w' := 0) (by decide) (by decide) ?_
                                  show AW _ _ _ _ _ _ _ [(0, .int (y)), (1, .int (nI (1))), (2, .int (nI (4)))] _ _ _ _ _
                                  refine aw_iload_n d_MO_in_0 rfl 0 rfl ?_
                                  refine aw_iload_n d_MO_in_1 rfl 1 rfl ?_
                                  refine at_lt rfl (nI_toInt (by omega)) (tgt := 14) d_MO_in_2 (by decide) (fun c133 => ?_) (fun c133 => ?_)
                                  · skip
                                    refine aw_iconst (v := nI 0) d_MO_in_14 (by decide) ?_
                                    refine aw_zret (Or.inl rfl) d_MO_in_15 rfl (by decide) (by decide) (ab_go1 ?_)
                                    refine aw_if_neN (tgt := 82) d_MO_isGood_77 (by decide) (by omega) (fun c134 => ?_) (fun c134 => ?_)
                                    · skip
                                      exact absurd c134 (by decide)
                                    · skip
                                      refine aw_iconst (v := nI 0) d_MO_isGood_80 (by decide) ?_
                                      refine aw_zret (Or.inl rfl) d_MO_isGood_81 rfl (by decide) (by decide) ?_
                                      exact hF (by unfold nmP wtP; omega)
                                  · skip
                                    refine aw_iload_n d_MO_in_5 rfl 0 rfl ?_
                                    refine aw_iload_n d_MO_in_6 rfl 2 rfl ?_
                                    refine at_gt rfl (nI_toInt (by omega)) (tgt := 14) d_MO_in_7 (by decide) (fun c135 => ?_) (fun c135 => ?_)
                                    · skip
                                      refine aw_iconst (v := nI 0) d_MO_in_14 (by decide) ?_
                                      refine aw_zret (Or.inl rfl) d_MO_in_15 rfl (by decide) (by decide) (ab_go1 ?_)
                                      refine aw_if_neN (tgt := 82) d_MO_isGood_77 (by decide) (by omega) (fun c136 => ?_) (fun c136 => ?_)
                                      · skip
                                        exact absurd c136 (by decide)
                                      · skip
                                        refine aw_iconst (v := nI 0) d_MO_isGood_80 (by decide) ?_
                                        refine aw_zret (Or.inl rfl) d_MO_isGood_81 rfl (by decide) (by decide) ?_
                                        exact hF (by unfold nmP wtP; omega)
                                    · skip
                                      refine aw_iconst (v := nI 1) d_MO_in_10 (by decide) ?_
                                      refine aw_goto (tgt := 15) d_MO_in_11 (by decide) ?_
                                      refine aw_zret (Or.inr rfl) d_MO_in_15 rfl (by decide) (by decide) (ab_go1 ?_)
                                      refine aw_if_neN (tgt := 82) d_MO_isGood_77 (by decide) (by omega) (fun c137 => ?_) (fun c137 => ?_)
                                      · skip
                                        refine aw_iload_n d_MO_isGood_82 rfl 0 rfl ?_
                                        refine aw_iconst (v := nI 2) d_MO_isGood_83 (by decide) ?_
                                        refine at_lt rfl (nI_toInt (by omega)) (tgt := 122) d_MO_isGood_84 (by decide) (fun c138 => ?_) (fun c138 => ?_)
                                        · skip
                                          refine aw_iconst (v := nI 1) d_MO_isGood_122 (by decide) ?_
                                          refine aw_goto (tgt := 127) d_MO_isGood_123 (by decide) ?_
                                          refine aw_zret (Or.inr rfl) d_MO_isGood_127 rfl (by decide) (by decide) ?_
                                          exact hT (by unfold nmP wtP; omega)
                                        · skip
                                          refine aw_iload_n d_MO_isGood_87 rfl 0 rfl ?_
                                          refine aw_iconst (v := nI 4) d_MO_isGood_88 (by decide) ?_
                                          refine at_gt rfl (nI_toInt (by omega)) (tgt := 122) d_MO_isGood_89 (by decide) (fun c139 => ?_) (fun c139 => ?_)
                                          · skip
                                            refine aw_iconst (v := nI 1) d_MO_isGood_122 (by decide) ?_
                                            refine aw_goto (tgt := 127) d_MO_isGood_123 (by decide) ?_
                                            refine aw_zret (Or.inr rfl) d_MO_isGood_127 rfl (by decide) (by decide) ?_
                                            exact hT (by unfold nmP wtP; omega)
                                          · skip
                                            refine aw_dload_n d_MO_isGood_92 rfl 2 rfl ?_
                                            refine aw_dconst1 d_MO_isGood_93 ?_
                                            refine aw_dcmp d_MO_isGood_94 ?_
                                            refine ad_eq fw.n fF_one.n d_MO_isGood_95 (tgt := 122) (by decide) (fun c140 => ?_) (fun c140 => ?_)
                                            · skip
                                              refine aw_iconst (v := nI 1) d_MO_isGood_122 (by decide) ?_
                                              refine aw_goto (tgt := 127) d_MO_isGood_123 (by decide) ?_
                                              refine aw_zret (Or.inr rfl) d_MO_isGood_127 rfl (by decide) (by decide) ?_
                                              exact hT (by unfold nmP wtP; omega)
                                            · skip
                                              refine aw_dload_n d_MO_isGood_98 rfl 2 rfl ?_
                                              refine aw_ldc2d (v := 4611686018427387904) d_MO_isGood_99 mw_774 ?_
                                              refine aw_dcmp d_MO_isGood_102 ?_
                                              refine ad_eq fw.n fF_2.n d_MO_isGood_103 (tgt := 122) (by decide) (fun c141 => ?_) (fun c141 => ?_)
                                              · skip
                                                refine aw_iconst (v := nI 1) d_MO_isGood_122 (by decide) ?_
                                                refine aw_goto (tgt := 127) d_MO_isGood_123 (by decide) ?_
                                                refine aw_zret (Or.inr rfl) d_MO_isGood_127 rfl (by decide) (by decide) ?_
                                                exact hT (by unfold nmP wtP; omega)
                                              · skip
                                                refine aw_dload_n d_MO_isGood_106 rfl 2 rfl ?_
                                                refine aw_ldc2d (v := 4613937818241073152) d_MO_isGood_107 mw_867 ?_
                                                refine aw_dcmp d_MO_isGood_110 ?_
                                                refine ad_eq fw.n fF_3.n d_MO_isGood_111 (tgt := 122) (by decide) (fun c142 => ?_) (fun c142 => ?_)
                                                · skip
                                                  refine aw_iconst (v := nI 1) d_MO_isGood_122 (by decide) ?_
                                                  refine aw_goto (tgt := 127) d_MO_isGood_123 (by decide) ?_
                                                  refine aw_zret (Or.inr rfl) d_MO_isGood_127 rfl (by decide) (by decide) ?_
                                                  exact hT (by unfold nmP wtP; omega)
                                                · skip
                                                  refine aw_dload_n d_MO_isGood_114 rfl 2 rfl ?_
                                                  refine aw_ldc2d (v := 4616189618054758400) d_MO_isGood_115 mw_868 ?_
                                                  refine aw_dcmp d_MO_isGood_118 ?_
                                                  refine ad_ne fw.n fF_4.n d_MO_isGood_119 (tgt := 126) (by decide) (fun c143 => ?_) (fun c143 => ?_)
                                                  · skip
                                                    refine aw_iconst (v := nI 0) d_MO_isGood_126 (by decide) ?_
                                                    refine aw_zret (Or.inl rfl) d_MO_isGood_127 rfl (by decide) (by decide) ?_
                                                    exact hF (by unfold nmP wtP; omega)
                                                  · skip
                                                    refine aw_iconst (v := nI 1) d_MO_isGood_122 (by decide) ?_
                                                    refine aw_goto (tgt := 127) d_MO_isGood_123 (by decide) ?_
                                                    refine aw_zret (Or.inr rfl) d_MO_isGood_127 rfl (by decide) (by decide) ?_
                                                    exact hT (by unfold nmP wtP; omega)
                                      · skip
                                        exact absurd c137 (by decide)
                    · skip
                      refine aw_iload_n d_MO_isGood_46 rfl 0 rfl ?_
                      refine aw_iconst (v := nI 3) d_MO_isGood_47 (by decide) ?_
                      refine at_ne rfl (nI_toInt (by omega)) (tgt := 61) d_MO_isGood_48 (by decide) (fun c144 => ?_) (fun c144 => ?_)
                      · skip
                        refine aw_iload_n d_MO_isGood_61 rfl 0 rfl ?_
                        refine aw_iconst (v := nI 5) d_MO_isGood_62 (by decide) ?_
                        refine aw_bipush (v := nI 9) d_MO_isGood_63 (by decide) ?_
                        refine aw_callS (K' := k_MO_in) (As := [.int (x), .int (nI (5)), .int (nI (9))]) (rest := []) d_MO_isGood_65 rfl cs_MO_54 rfl (Nat.le_of_ble_eq_true rfl) (Nat.le_of_ble_eq_true rfl) (by decide) (by decide) (d' := 0) (w' := 0) (by decide) (by decide) ?_
                        show AW _ _ _ _ _ _ _ [(0, .int (x)), (1, .int (nI (5))), (2, .int (nI (9)))] _ _ _ _ _
                        refine aw_iload_n d_MO_in_0 rfl 0 rfl ?_
                        refine aw_iload_n d_MO_in_1 rfl 1 rfl ?_
                        refine at_lt rfl (nI_toInt (by omega)) (tgt := 14) d_MO_in_2 (by decide) (fun c145 => ?_) (fun c145 => ?_)
                        · skip
                          refine aw_iconst (v := nI 0) d_MO_in_14 (by decide) ?_
                          refine aw_zret (Or.inl rfl) d_MO_in_15 rfl (by decide) (by decide) (ab_go1 ?_)
                          refine aw_if_eqN (tgt := 82) d_MO_isGood_68 (by decide) (by omega) (fun c146 => ?_) (fun c146 => ?_)
                          · skip
                            refine aw_iload_n d_MO_isGood_82 rfl 0 rfl ?_
                            refine aw_iconst (v := nI 2) d_MO_isGood_83 (by decide) ?_
                            refine at_lt rfl (nI_toInt (by omega)) (tgt := 122) d_MO_isGood_84 (by decide) (fun c147 => ?_) (fun c147 => ?_)
                            · skip
                              refine aw_iconst (v := nI 1) d_MO_isGood_122 (by decide) ?_
                              refine aw_goto (tgt := 127) d_MO_isGood_123 (by decide) ?_
                              refine aw_zret (Or.inr rfl) d_MO_isGood_127 rfl (by decide) (by decide) ?_
                              exact hT (by unfold nmP wtP; omega)
                            · skip
                              refine aw_iload_n d_MO_isGood_87 rfl 0 rfl ?_
                              refine aw_iconst (v := nI 4) d_MO_isGood_88 (by decide) ?_
                              refine at_gt rfl (nI_toInt (by omega)) (tgt := 122) d_MO_isGood_89 (by decide) (fun c148 => ?_) (fun c148 => ?_)
                              · skip
                                refine aw_iconst (v := nI 1) d_MO_isGood_122 (by decide) ?_
                                refine aw_goto (tgt := 127) d_MO_isGood_123 (by decide) ?_
                                refine aw_zret (Or.inr rfl) d_MO_isGood_127 rfl (by decide) (by decide) ?_
                                exact hT (by unfold nmP wtP; omega)
                              · skip
                                refine aw_dload_n d_MO_isGood_92 rfl 2 rfl ?_
                                refine aw_dconst1 d_MO_isGood_93 ?_
                                refine aw_dcmp d_MO_isGood_94 ?_
                                refine ad_eq fw.n fF_one.n d_MO_isGood_95 (tgt := 122) (by decide) (fun c149 => ?_) (fun c149 => ?_)
                                · skip
                                  refine aw_iconst (v := nI 1) d_MO_isGood_122 (by decide) ?_
                                  refine aw_goto (tgt := 127) d_MO_isGood_123 (by decide) ?_
                                  refine aw_zret (Or.inr rfl) d_MO_isGood_127 rfl (by decide) (by decide) ?_
                                  exact hT (by unfold nmP wtP; omega)
                                · skip
                                  refine aw_dload_n d_MO_isGood_98 rfl 2 rfl ?_
                                  refine aw_ldc2d (v := 4611686018427387904) d_MO_isGood_99 mw_774 ?_
                                  refine aw_dcmp d_MO_isGood_102 ?_
                                  refine ad_eq fw.n fF_2.n d_MO_isGood_103 (tgt := 122) (by decide) (fun c150 => ?_) (fun c150 => ?_)
                                  · skip
                                    refine aw_iconst (v := nI 1) d_MO_isGood_122 (by decide) ?_
                                    refine aw_goto (tgt := 127) d_MO_isGood_123 (by decide) ?_
                                    refine aw_zret (Or.inr rfl) d_MO_isGood_127 rfl (by decide) (by decide) ?_
                                    exact hT (by unfold nmP wtP; omega)
                                  · skip
                                    refine aw_dload_n d_MO_isGood_106 rfl 2 rfl ?_
                                    refine aw_ldc2d (v := 4613937818241073152) d_MO_isGood_107 mw_867 ?_
                                    refine aw_dcmp d_MO_isGood_110 ?_
                                    refine ad_eq fw.n fF_3.n d_MO_isGood_111 (tgt := 122) (by decide) (fun c151 => ?_) (fun c151 => ?_)
                                    · skip
                                      refine aw_iconst (v := nI 1) d_MO_isGood_122 (by decide) ?_
                                      refine aw_goto (tgt := 127) d_MO_isGood_123 (by decide) ?_
                                      refine aw_zret (Or.inr rfl) d_MO_isGood_127 rfl (by decide) (by decide) ?_
                                      exact hT (by unfold nmP wtP; omega)
                                    · skip
                                      refine aw_dload_n d_MO_isGood_114 rfl 2 rfl ?_
                                      refine aw_ldc2d (v := 4616189618054758400) d_MO_isGood_115 mw_868 ?_
                                      refine aw_dcmp d_MO_isGood_118 ?_
                                      refine ad_ne fw.n fF_4.n d_MO_isGood_119 (tgt := 126) (by decide) (fun c152 => ?_) (fun c152 => ?_)
                                      · skip
                                        refine aw_iconst (v := nI 0) d_MO_isGood_126 (by decide) ?_
                                        refine aw_zret (Or.inl rfl) d_MO_isGood_127 rfl (by decide) (by decide) ?_
                                        exact hF (by unfold nmP wtP; omega)
                                      · skip
                                        refine aw_iconst (v := nI 1) d_MO_isGood_122 (by decide) ?_
                                        refine aw_goto (tgt := 127) d_MO_isGood_123 (by decide) ?_
                                        refine aw_zret (Or.inr rfl) d_MO_isGood_127 rfl (by decide) (by decide) ?_
                                        exact hT (by unfold nmP wtP; omega)
                          · skip
                            exact absurd c146 (by decide)
                        · skip
                          refine aw_iload_n d_MO_in_5 rfl 0 rfl ?_
                          refine aw_iload_n d_MO_in_6 rfl 2 rfl ?_
                          refine at_gt rfl (nI_toInt (by omega)) (tgt := 14) d_MO_in_7 (by decide) (fun c153 => ?_) (fun c153 => ?_)
                          · skip
                            refine aw_iconst (v := nI 0) d_MO_in_14 (by decide) ?_
                            refine aw_zret (Or.inl rfl) d_MO_in_15 rfl (by decide) (by decide) (ab_go1 ?_)
                            refine aw_if_eqN (tgt := 82) d_MO_isGood_68 (by decide) (by omega) (fun c154 => ?_) (fun c154 => ?_)
                            · skip
                              refine aw_iload_n d_MO_isGood_82 rfl 0 rfl ?_
                              refine aw_iconst (v := nI 2) d_MO_isGood_83 (by decide) ?_
                              refine at_lt rfl (nI_toInt (by omega)) (tgt := 122) d_MO_isGood_84 (by decide) (fun c155 => ?_) (fun c155 => ?_)
                              · skip
                                refine aw_iconst (v := nI 1) d_MO_isGood_122 (by decide) ?_
                                refine aw_goto (tgt := 127) d_MO_isGood_123 (by decide) ?_
                                refine aw_zret (Or.inr rfl) d_MO_isGood_127 rfl (by decide) (by decide) ?_
                                exact hT (by unfold nmP wtP; omega)
                              · skip
                                refine aw_iload_n d_MO_isGood_87 rfl 0 rfl ?_
                                refine aw_iconst (v := nI 4) d_MO_isGood_88 (by decide) ?_
                                refine at_gt rfl (nI_toInt (by omega)) (tgt := 122) d_MO_isGood_89 (by decide) (fun c156 => ?_) (fun c156 => ?_)
                                · skip
                                  refine aw_iconst (v := nI 1) d_MO_isGood_122 (by decide) ?_
                                  refine aw_goto (tgt := 127) d_MO_isGood_123 (by decide) ?_
                                  refine aw_zret (Or.inr rfl) d_MO_isGood_127 rfl (by decide) (by decide) ?_
                                  exact hT (by unfold nmP wtP; omega)
                                · skip
                                  refine aw_dload_n d_MO_isGood_92 rfl 2 rfl ?_
                                  refine aw_dconst1 d_MO_isGood_93 ?_
                                  refine aw_dcmp d_MO_isGood_94 ?_
                                  refine ad_eq fw.n fF_one.n d_MO_isGood_95 (tgt := 122) (by decide) (fun c157 => ?_) (fun c157 => ?_)
                                  · skip
                                    refine aw_iconst (v := nI 1) d_MO_isGood_122 (by decide) ?_
                                    refine aw_goto (tgt := 127) d_MO_isGood_123 (by decide) ?_
                                    refine aw_zret (Or.inr rfl) d_MO_isGood_127 rfl (by decide) (by decide) ?_
                                    exact hT (by unfold nmP wtP; omega)
                                  · skip
                                    refine aw_dload_n d_MO_isGood_98 rfl 2 rfl ?_
                                    refine aw_ldc2d (v := 4611686018427387904) d_MO_isGood_99 mw_774 ?_
                                    refine aw_dcmp d_MO_isGood_102 ?_
                                    refine ad_eq fw.n fF_2.n d_MO_isGood_103 (tgt := 122) (by decide) (fun c158 => ?_) (fun c158 => ?_)
                                    · skip
                                      refine aw_iconst (v := nI 1) d_MO_isGood_122 (by decide) ?_
                                      refine aw_goto (tgt := 127) d_MO_isGood_123 (by decide) ?_
                                      refine aw_zret (Or.inr rfl) d_MO_isGood_127 rfl (by decide) (by decide) ?_
                                      exact hT (by unfold nmP wtP; omega)
                                    · skip
                                      refine aw_dload_n d_MO_isGood_106 rfl 2 rfl ?_
                                      refine aw_ldc2d (v := 4613937818241073152) d_MO_isGood_107 mw_867 ?_
                                      refine aw_dcmp d_MO_isGood_110 ?_
                                      refine ad_eq fw.n fF_3.n d_MO_isGood_111 (tgt := 122) (by decide) (fun c159 => ?_) (fun c159 => ?_)
                                      · skip
                                        refine aw_iconst (v := nI 1) d_MO_isGood_122 (by decide) ?_
                                        refine aw_goto (tgt := 127) d_MO_isGood_123 (by decide) ?_
                                        refine aw_zret (Or.inr rfl) d_MO_isGood_127 rfl (by decide) (by decide) ?_
                                        exact hT (by unfold nmP wtP; omega)
                                      · skip
                                        refine aw_dload_n d_MO_isGood_114 rfl 2 rfl ?_
                                        refine aw_ldc2d (v := 4616189618054758400) d_MO_isGood_115 mw_868 ?_
                                        refine aw_dcmp d_MO_isGood_118 ?_
                                        refine ad_ne fw.n fF_4.n d_MO_isGood_119 (tgt := 126) (by decide) (fun c160 => ?_) (fun c160 => ?_)
                                        · skip
                                          refine aw_iconst (v := nI 0) d_MO_isGood_126 (by decide) ?_
                                          refine aw_zret (Or.inl rfl) d_MO_isGood_127 rfl (by decide) (by decide) ?_
                                          exact hF (by unfold nmP wtP; omega)
                                        · skip
                                          refine aw_iconst (v := nI 1) d_MO_isGood_122 (by decide) ?_
                                          refine aw_goto (tgt := 127) d_MO_isGood_123 (by decide) ?_
                                          refine aw_zret (Or.inr rfl) d_MO_isGood_127 rfl (by decide) (by decide) ?_
                                          exact hT (by unfold nmP wtP; omega)
                            · skip
                              exact absurd c154 (by decide)
                          · skip
                            refine aw_iconst (v := nI 1) d_MO_in_10 (by decide) ?_
                            refine aw_goto (tgt := 15) d_MO_in_11 (by decide) ?_
                            refine aw_zret (Or.inr rfl) d_MO_in_15 rfl (by decide) (by decide) (ab_go1 ?_)
                            refine aw_if_eqN (tgt := 82) d_MO_isGood_68 (by decide) (by omega) (fun c161 => ?_) (fun c161 => ?_)
                            · skip
                              exact absurd c161 (by decide)
                            · skip
                              refine aw_iload_n d_MO_isGood_71 rfl 1 rfl ?_
                              refine aw_iconst (v := nI 1) d_MO_isGood_72 (by decide) ?_
                              refine aw_iconst (v := nI 4) d_MO_isGood_73 (by decide) ?_
                              refine aw_callS (K' := k_MO_in) (As := [.int (y), .int (nI (1)), .int (nI (4))]) (rest := []) d_MO_isGood_74 rfl cs_MO_54 rfl (Nat.le_of_ble_eq_true rfl) (Nat.le_of_ble_eq_true rfl) (by decide) (by decide) (d' := 0) (w' := 0) (by decide) (by decide) ?_
                              show AW _ _ _ _ _ _ _ [(0, .int (y)), (1, .int (nI (1))), (2, .int (nI (4)))] _ _ _ _ _
                              refine aw_iload_n d_MO_in_0 rfl 0 rfl ?_
                              refine aw_iload_n d_MO_in_1 rfl 1 rfl ?_
                              refine at_lt rfl (nI_toInt (by omega)) (tgt := 14) d_MO_in_2 (by decide) (fun c162 => ?_) (fun c162 => ?_)
                              · skip
                                refine aw_iconst (v := nI 0) d_MO_in_14 (by decide) ?_
                                refine aw_zret (Or.inl rfl) d_MO_in_15 rfl (by decide) (by decide) (ab_go1 ?_)
                                refine aw_if_neN (tgt := 82) d_MO_isGood_77 (by decide) (by omega) (fun c163 => ?_) (fun c163 => ?_)
                                · skip
                                  exact absurd c163 (by decide)
                                · skip
                                  refine aw_iconst (v := nI 0) d_MO_isGood_80 (by decide) ?_
                                  refine aw_zret (Or.inl rfl) d_MO_isGood_81 rfl (by decide) (by decide) ?_
                                  exact hF (by unfold nmP wtP; omega)
                              · skip
                                refine aw_iload_n d_MO_in_5 rfl 0 rfl ?_
                                refine aw_iload_n d_MO_in_6 rfl 2 rfl ?_
                                refine at_gt rfl (nI_toInt (by omega)) (tgt := 14) d_MO_in_7 (by decide) (fun c164 => ?_) (fun c164 => ?_)
                                · skip
                                  refine aw_iconst (v := nI 0) d_MO_in_14 (by decide) ?_
                                  refine aw_zret (Or.inl rfl) d_MO_in_15 rfl (by decide) (by decide) (ab_go1 ?_)
                                  refine aw_if_neN (tgt := 82) d_MO_isGood_77 (by decide) (by omega) (fun c165 => ?_) (fun c165 => ?_)
                                  · skip
                                    exact absurd c165 (by decide)
                                  · skip
                                    refine aw_iconst (v := nI 0) d_MO_isGood_80 (by decide) ?_
                                    refine aw_zret (Or.inl rfl) d_MO_isGood_81 rfl (by decide) (by decide) ?_
                                    exact hF (by unfold nmP wtP; omega)
                                · skip
                                  refine aw_iconst (v := nI 1) d_MO_in_10 (by decide) ?_
                                  refine aw_goto (tgt := 15) d_MO_in_11 (by decide) ?_
                                  refine aw_zret (Or.inr rfl) d_MO_in_15 rfl (by decide) (by decide) (ab_go1 ?_)
                                  refine aw_if_neN (tgt := 82) d_MO_isGood_77 (by decide) (by omega) (fun c166 => ?_) (fun c166 => ?_)
                                  · skip
                                    refine aw_iload_n d_MO_isGood_82 rfl 0 rfl ?_
                                    refine aw_iconst (v := nI 2) d_MO_isGood_83 (by decide) ?_
                                    refine at_lt rfl (nI_toInt (by omega)) (tgt := 122) d_MO_isGood_84 (by decide) (fun c167 => ?_) (fun c167 => ?_)
                                    · skip
                                      refine aw_iconst (v := nI 1) d_MO_isGood_122 (by decide) ?_
                                      refine aw_goto (tgt := 127) d_MO_isGood_123 (by decide) ?_
                                      refine aw_zret (Or.inr rfl) d_MO_isGood_127 rfl (by decide) (by decide) ?_
                                      exact hT (by unfold nmP wtP; omega)
                                    · skip
                                      refine aw_iload_n d_MO_isGood_87 rfl 0 rfl ?_
                                      refine aw_iconst (v := nI 4) d_MO_isGood_88 (by decide) ?_
                                      refine at_gt rfl (nI_toInt (by omega)) (tgt := 122) d_MO_isGood_89 (by decide) (fun c168 => ?_) (fun c168 => ?_)
                                      · skip
                                        refine aw_iconst (v := nI 1) d_MO_isGood_122 (by decide) ?_
                                        refine aw_goto (tgt := 127) d_MO_isGood_123 (by decide) ?_
                                        refine aw_zret (Or.inr rfl) d_MO_isGood_127 rfl (by decide) (by decide) ?_
                                        exact hT (by unfold nmP wtP; omega)
                                      · skip
                                        refine aw_dload_n d_MO_isGood_92 rfl 2 rfl ?_
                                        refine aw_dconst1 d_MO_isGood_93 ?_
                                        refine aw_dcmp d_MO_isGood_94 ?_
                                        refine ad_eq fw.n fF_one.n d_MO_isGood_95 (tgt := 122) (by decide) (fun c169 => ?_) (fun c169 => ?_)
                                        · skip
                                          refine aw_iconst (v := nI 1) d_MO_isGood_122 (by decide) ?_
                                          refine aw_goto (tgt := 127) d_MO_isGood_123 (by decide) ?_
                                          refine aw_zret (Or.inr rfl) d_MO_isGood_127 rfl (by decide) (by decide) ?_
                                          exact hT (by unfold nmP wtP; omega)
                                        · skip
                                          refine aw_dload_n d_MO_isGood_98 rfl 2 rfl ?_
                                          refine aw_ldc2d (v := 4611686018427387904) d_MO_isGood_99 mw_774 ?_
                                          refine aw_dcmp d_MO_isGood_102 ?_
                                          refine ad_eq fw.n fF_2.n d_MO_isGood_103 (tgt := 122) (by decide) (fun c170 => ?_) (fun c170 => ?_)
                                          · skip
                                            refine aw_iconst (v := nI 1) d_MO_isGood_122 (by decide) ?_
                                            refine aw_goto (tgt := 127) d_MO_isGood_123 (by decide) ?_
                                            refine aw_zret (Or.inr rfl) d_MO_isGood_127 rfl (by decide) (by decide) ?_
                                            exact hT (by unfold nmP wtP; omega)
                                          · skip
                                            refine aw_dload_n d_MO_isGood_106 rfl 2 rfl ?_
                                            refine aw_ldc2d (v := 4613937818241073152) d_MO_isGood_107 mw_867 ?_
                                            refine aw_dcmp d_MO_isGood_110 ?_
                                            refine ad_eq fw.n fF_3.n d_MO_isGood_111 (tgt := 122) (by decide) (fun c171 => ?_) (fun c171 => ?_)
                                            · skip
                                              refine aw_iconst (v := nI 1) d_MO_isGood_122 (by decide) ?_
                                              refine aw_goto (tgt := 127) d_MO_isGood_123 (by decide) ?_
                                              refine aw_zret (Or.inr rfl) d_MO_isGood_127 rfl (by decide) (by decide) ?_
                                              exact hT (by unfold nmP wtP; omega)
                                            · skip
                                              refine aw_dload_n d_MO_isGood_114 rfl 2 rfl ?_
                                              refine aw_ldc2d (v := 4616189618054758400) d_MO_isGood_115 mw_868 ?_
                                              refine aw_dcmp d_MO_isGood_118 ?_
                                              refine ad_ne fw.n fF_4.n d_MO_isGood_119 (tgt := 126) (by decide) (fun c172 => ?_) (fun c172 => ?_)
                                              · skip
                                                refine aw_iconst (v := nI 0) d_MO_isGood_126 (by decide) ?_
                                                refine aw_zret (Or.inl rfl) d_MO_isGood_127 rfl (by decide) (by decide) ?_
                                                exact hF (by unfold nmP wtP; omega)
                                              · skip
                                                refine aw_iconst (v := nI 1) d_MO_isGood_122 (by decide) ?_
                                                refine aw_goto (tgt := 127) d_MO_isGood_123 (by decide) ?_
                                                refine aw_zret (Or.inr rfl) d_MO_isGood_127 rfl (by decide) (by decide) ?_
                                                exact hT (by unfold nmP wtP; omega)
                                  · skip
                                    exact absurd c166 (by decide)
                      · skip
                        refine aw_iload_n d_MO_isGood_51 rfl 1 rfl ?_
                        refine aw_iconst (v := nI 1) d_MO_isGood_52 (by decide) ?_
                        refine aw_bipush (v := nI 24) d_MO_isGood_53 (by decide) ?_
                        refine aw_callS (K' := k_MO_in) (As := [.int (y), .int (nI (1)), .int (nI (24))]) (rest := []) d_MO_isGood_55 rfl cs_MO_54 rfl (Nat.le_of_ble_eq_true rfl) (Nat.le_of_ble_eq_true rfl) (by decide) (by decide) (d' := 0) (w' := 0) (by decide) (by decide) ?_
                        show AW _ _ _ _ _ _ _ [(0, .int (y)), (1, .int (nI (1))), (2, .int (nI (24)))] _ _ _ _ _
                        refine aw_iload_n d_MO_in_0 rfl 0 rfl ?_
                        refine aw_iload_n d_MO_in_1 rfl 1 rfl ?_
                        refine at_lt rfl (nI_toInt (by omega)) (tgt := 14) d_MO_in_2 (by decide) (fun c173 => ?_) (fun c173 => ?_)
                        · skip
                          refine aw_iconst (v := nI 0) d_MO_in_14 (by decide) ?_
                          refine aw_zret (Or.inl rfl) d_MO_in_15 rfl (by decide) (by decide) (ab_go1 ?_)
                          refine aw_if_eqN (tgt := 80) d_MO_isGood_58 (by decide) (by omega) (fun c174 => ?_) (fun c174 => ?_)
                          · skip
                            refine aw_iconst (v := nI 0) d_MO_isGood_80 (by decide) ?_
                            refine aw_zret (Or.inl rfl) d_MO_isGood_81 rfl (by decide) (by decide) ?_
                            exact hF (by unfold nmP wtP; omega)
                          · skip
                            exact absurd c174 (by decide)
                        · skip
                          refine aw_iload_n d_MO_in_5 rfl 0 rfl ?_
                          refine aw_iload_n d_MO_in_6 rfl 2 rfl ?_
                          refine at_gt rfl (nI_toInt (by omega)) (tgt := 14) d_MO_in_7 (by decide) (fun c175 => ?_) (fun c175 => ?_)
                          · skip
                            refine aw_iconst (v := nI 0) d_MO_in_14 (by decide) ?_
                            refine aw_zret (Or.inl rfl) d_MO_in_15 rfl (by decide) (by decide) (ab_go1 ?_)
                            refine aw_if_eqN (tgt := 80) d_MO_isGood_58 (by decide) (by omega) (fun c176 => ?_) (fun c176 => ?_)
                            · skip
                              refine aw_iconst (v := nI 0) d_MO_isGood_80 (by decide) ?_
                              refine aw_zret (Or.inl rfl) d_MO_isGood_81 rfl (by decide) (by decide) ?_
                              exact hF (by unfold nmP wtP; omega)
                            · skip
                              exact absurd c176 (by decide)
                          · skip
                            refine aw_iconst (v := nI 1) d_MO_in_10 (by decide) ?_
                            refine aw_goto (tgt := 15) d_MO_in_11 (by decide) ?_
                            refine aw_zret (Or.inr rfl) d_MO_in_15 rfl (by decide) (by decide) (ab_go1 ?_)
                            refine aw_if_eqN (tgt := 80) d_MO_isGood_58 (by decide) (by omega) (fun c177 => ?_) (fun c177 => ?_)
                            · skip
                              exact absurd c177 (by decide)
                            · skip
                              refine aw_iload_n d_MO_isGood_61 rfl 0 rfl ?_
                              refine aw_iconst (v := nI 5) d_MO_isGood_62 (by decide) ?_
                              refine aw_bipush (v := nI 9) d_MO_isGood_63 (by decide) ?_
                              refine aw_callS (K' := k_MO_in) (As := [.int (x), .int (nI (5)), .int (nI (9))]) (rest := []) d_MO_isGood_65 rfl cs_MO_54 rfl (Nat.le_of_ble_eq_true rfl) (Nat.le_of_ble_eq_true rfl) (by decide) (by decide) (d' := 0) (w' := 0) (by decide) (by decide) ?_
                              show AW _ _ _ _ _ _ _ [(0, .int (x)), (1, .int (nI (5))), (2, .int (nI (9)))] _ _ _ _ _
                              refine aw_iload_n d_MO_in_0 rfl 0 rfl ?_
                              refine aw_iload_n d_MO_in_1 rfl 1 rfl ?_
                              refine at_lt rfl (nI_toInt (by omega)) (tgt := 14) d_MO_in_2 (by decide) (fun c178 => ?_) (fun c178 => ?_)
                              · skip
                                refine aw_iconst (v := nI 0) d_MO_in_14 (by decide) ?_
                                refine aw_zret (Or.inl rfl) d_MO_in_15 rfl (by decide) (by decide) (ab_go1 ?_)
                                refine aw_if_eqN (tgt := 82) d_MO_isGood_68 (by decide) (by omega) (fun c179 => ?_) (fun c179 => ?_)
                                · skip
                                  refine aw_iload_n d_MO_isGood_82 rfl 0 rfl ?_
                                  refine aw_iconst (v := nI 2) d_MO_isGood_83 (by decide) ?_
                                  refine at_lt rfl (nI_toInt (by omega)) (tgt := 122) d_MO_isGood_84 (by decide) (fun c180 => ?_) (fun c180 => ?_)
                                  · skip
                                    refine aw_iconst (v := nI 1) d_MO_isGood_122 (by decide) ?_
                                    refine aw_goto (tgt := 127) d_MO_isGood_123 (by decide) ?_
                                    refine aw_zret (Or.inr rfl) d_MO_isGood_127 rfl (by decide) (by decide) ?_
                                    exact hT (by unfold nmP wtP; omega)
                                  · skip
                                    refine aw_iload_n d_MO_isGood_87 rfl 0 rfl ?_
                                    refine aw_iconst (v := nI 4) d_MO_isGood_88 (by decide) ?_
                                    refine at_gt rfl (nI_toInt (by omega)) (tgt := 122) d_MO_isGood_89 (by decide) (fun c181 => ?_) (fun c181 => ?_)
                                    · skip
                                      refine aw_iconst (v := nI 1) d_MO_isGood_122 (by decide) ?_
                                      refine aw_goto (tgt := 127) d_MO_isGood_123 (by decide) ?_
                                      refine aw_zret (Or.inr rfl) d_MO_isGood_127 rfl (by decide) (by decide) ?_
                                      exact hT (by unfold nmP wtP; omega)
                                    · skip
                                      refine aw_dload_n d_MO_isGood_92 rfl 2 rfl ?_
                                      refine aw_dconst1 d_MO_isGood_93 ?_
                                      refine aw_dcmp d_MO_isGood_94 ?_
                                      refine ad_eq fw.n fF_one.n d_MO_isGood_95 (tgt := 122) (by decide) (fun c182 => ?_) (fun c182 => ?_)
                                      · skip
                                        refine aw_iconst (v := nI 1) d_MO_isGood_122 (by decide) ?_
                                        refine aw_goto (tgt := 127) d_MO_isGood_123 (by decide) ?_
                                        refine aw_zret (Or.inr rfl) d_MO_isGood_127 rfl (by decide) (by decide) ?_
                                        exact hT (by unfold nmP wtP; omega)
                                      · skip
                                        refine aw_dload_n d_MO_isGood_98 rfl 2 rfl ?_
                                        refine aw_ldc2d (v := 4611686018427387904) d_MO_isGood_99 mw_774 ?_
                                        refine aw_dcmp d_MO_isGood_102 ?_
                                        refine ad_eq fw.n fF_2.n d_MO_isGood_103 (tgt := 122) (by decide) (fun c183 => ?_) (fun c183 => ?_)
                                        · skip
                                          refine aw_iconst (v := nI 1) d_MO_isGood_122 (by decide) ?_
                                          refine aw_goto (tgt := 127) d_MO_isGood_123 (by decide) ?_
                                          refine aw_zret (Or.inr rfl) d_MO_isGood_127 rfl (by decide) (by decide) ?_
                                          exact hT (by unfold nmP wtP; omega)
                                        · skip
                                          refine aw_dload_n d_MO_isGood_106 rfl 2 rfl ?_
                                          refine aw_ldc2d (v := 4613937818241073152) d_MO_isGood_107 mw_867 ?_
                                          refine aw_dcmp d_MO_isGood_110 ?_
                                          refine ad_eq fw.n fF_3.n d_MO_isGood_111 (tgt := 122) (by decide) (fun c184 => ?_) (fun c184 => ?_)
                                          · skip
                                            refine aw_iconst (v := nI 1) d_MO_isGood_122 (by decide) ?_
                                            refine aw_goto (tgt := 127) d_MO_isGood_123 (by decide) ?_
                                            refine aw_zret (Or.inr rfl) d_MO_isGood_127 rfl (by decide) (by decide) ?_
                                            exact hT (by unfold nmP wtP; omega)
                                          · skip
                                            refine aw_dload_n d_MO_isGood_114 rfl 2 rfl ?_
                                            refine aw_ldc2d (v := 4616189618054758400) d_MO_isGood_115 mw_868 ?_
                                            refine aw_dcmp d_MO_isGood_118 ?_
                                            refine ad_ne fw.n fF_4.n d_MO_isGood_119 (tgt := 126) (by decide) (fun c185 => ?_) (fun c185 => ?_)
                                            · skip
                                              refine aw_iconst (v := nI 0) d_MO_isGood_126 (by decide) ?_
                                              refine aw_zret (Or.inl rfl) d_MO_isGood_127 rfl (by decide) (by decide) ?_
                                              exact hF (by unfold nmP wtP; omega)
                                            · skip
                                              refine aw_iconst (v := nI 1) d_MO_isGood_122 (by decide) ?_
                                              refine aw_goto (tgt := 127) d_MO_isGood_123 (by decide) ?_
                                              refine aw_zret (Or.inr rfl) d_MO_isGood_127 rfl (by decide) (by decide) ?_
                                              exact hT (by unfold nmP wtP; omega)
                                · skip
                                  exact absurd c179 (by decide)
                              · skip
                                refine aw_iload_n d_MO_in_5 rfl 0 rfl ?_
                                refine aw_iload_n d_MO_in_6 rfl 2 rfl ?_
                                refine at_gt rfl (nI_toInt (by omega)) (tgt := 14) d_MO_in_7 (by decide) (fun c186 => ?_) (fun c186 => ?_)
                                · skip
                                  refine aw_iconst (v := nI 0) d_MO_in_14 (by decide) ?_
                                  refine aw_zret (Or.inl rfl) d_MO_in_15 rfl (by decide) (by decide) (ab_go1 ?_)
                                  refine aw_if_eqN (tgt := 82) d_MO_isGood_68 (by decide) (by omega) (fun c187 => ?_) (fun c187 => ?_)
                                  · skip
                                    refine aw_iload_n d_MO_isGood_82 rfl 0 rfl ?_
                                    refine aw_iconst (v := nI 2) d_MO_isGood_83 (by decide) ?_
                                    refine at_lt rfl (nI_toInt (by omega)) (tgt := 122) d_MO_isGood_84 (by decide) (fun c188 => ?_) (fun c188 => ?_)
                                    · skip
                                      refine aw_iconst (v := nI 1) d_MO_isGood_122 (by decide) ?_
                                      refine aw_goto (tgt := 127) d_MO_isGood_123 (by decide) ?_
                                      refine aw_zret (Or.inr rfl) d_MO_isGood_127 rfl (by decide) (by decide) ?_
                                      exact hT (by unfold nmP wtP; omega)
                                    · skip
                                      refine aw_iload_n d_MO_isGood_87 rfl 0 rfl ?_
                                      refine aw_iconst (v := nI 4) d_MO_isGood_88 (by decide) ?_
                                      refine at_gt rfl (nI_toInt (by omega)) (tgt := 122) d_MO_isGood_89 (by decide) (fun c189 => ?_) (fun c189 => ?_)
                                      · skip
                                        refine aw_iconst (v := nI 1) d_MO_isGood_122 (by decide) ?_
                                        refine aw_goto (tgt := 127) d_MO_isGood_123 (by decide) ?_
                                        refine aw_zret (Or.inr rfl) d_MO_isGood_127 rfl (by decide) (by decide) ?_
                                        exact hT (by unfold nmP wtP; omega)
                                      · skip
                                        refine aw_dload_n d_MO_isGood_92 rfl 2 rfl ?_
                                        refine aw_dconst1 d_MO_isGood_93 ?_
                                        refine aw_dcmp d_MO_isGood_94 ?_
                                        refine ad_eq fw.n fF_one.n d_MO_isGood_95 (tgt := 122) (by decide) (fun c190 => ?_) (fun c190 => ?_)
                                        · skip
                                          refine aw_iconst (v := nI 1) d_MO_isGood_122 (by decide) ?_
                                          refine aw_goto (tgt := 127) d_MO_isGood_123 (by decide) ?_
                                          refine aw_zret (Or.inr rfl) d_MO_isGood_127 rfl (by decide) (by decide) ?_
                                          exact hT (by unfold nmP wtP; omega)
                                        · skip
                                          refine aw_dload_n d_MO_isGood_98 rfl 2 rfl ?_
                                          refine aw_ldc2d (v := 4611686018427387904) d_MO_isGood_99 mw_774 ?_
                                          refine aw_dcmp d_MO_isGood_102 ?_
                                          refine ad_eq fw.n fF_2.n d_MO_isGood_103 (tgt := 122) (by decide) (fun c191 => ?_) (fun c191 => ?_)
                                          · skip
                                            refine aw_iconst (v := nI 1) d_MO_isGood_122 (by decide) ?_
                                            refine aw_goto (tgt := 127) d_MO_isGood_123 (by decide) ?_
                                            refine aw_zret (Or.inr rfl) d_MO_isGood_127 rfl (by decide) (by decide) ?_
                                            exact hT (by unfold nmP wtP; omega)
                                          · skip
                                            refine aw_dload_n d_MO_isGood_106 rfl 2 rfl ?_
                                            refine aw_ldc2d (v := 4613937818241073152) d_MO_isGood_107 mw_867 ?_
                                            refine aw_dcmp d_MO_isGood_110 ?_
                                            refine ad_eq fw.n fF_3.n d_MO_isGood_111 (tgt := 122) (by decide) (fun c192 => ?_) (fun c192 => ?_)
                                            · skip
                                              refine aw_iconst (v := nI 1) d_MO_isGood_122 (by decide) ?_
                                              refine aw_goto (tgt := 127) d_MO_isGood_123 (by decide) ?_
                                              refine aw_zret (Or.inr rfl) d_MO_isGood_127 rfl (by decide) (by decide) ?_
                                              exact hT (by unfold nmP wtP; omega)
                                            · skip
                                              refine aw_dload_n d_MO_isGood_114 rfl 2 rfl ?_
                                              refine aw_ldc2d (v := 4616189618054758400) d_MO_isGood_115 mw_868 ?_
                                              refine aw_dcmp d_MO_isGood_118 ?_
                                              refine ad_ne fw.n fF_4.n d_MO_isGood_119 (tgt := 126) (by decide) (fun c193 => ?_) (fun c193 => ?_)
                                              · skip
                                                refine aw_iconst (v := nI 0) d_MO_isGood_126 (by decide) ?_
                                                refine aw_zret (Or.inl rfl) d_MO_isGood_127 rfl (by decide) (by decide) ?_
                                                exact hF (by unfold nmP wtP; omega)
                                              · skip
                                                refine aw_iconst (v := nI 1) d_MO_isGood_122 (by decide) ?_
                                                refine aw_goto (tgt := 127) d_MO_isGood_123 (by decide) ?_
                                                refine aw_zret (Or.inr rfl) d_MO_isGood_127 rfl (by decide) (by decide) ?_
                                                exact hT (by unfold nmP wtP; omega)
                                  · skip
                                    exact absurd c187 (by decide)
                                · skip
                                  refine aw_iconst (v := nI 1) d_MO_in_10 (by decide) ?_
                                  refine aw_goto (tgt := 15) d_MO_in_11 (by decide) ?_
                                  refine aw_zret (Or.inr rfl) d_MO_in_15 rfl (by decide) (by decide) (ab_go1 ?_)
                                  refine aw_if_eqN (tgt := 82) d_MO_isGood_68 (by decide) (by omega) (fun c194 => ?_) (fun c194 => ?_)
                                  · skip
                                    exact absurd c194 (by decide)
                                  · skip
                                    refine aw_iload_n d_MO_isGood_71 rfl 1 rfl ?_
                                    refine aw_iconst (v := nI 1) d_MO_isGood_72 (by decide) ?_
                                    refine aw_iconst (v := nI 4) d_MO_isGood_73 (by decide) ?_
                                    refine aw_callS (K' := k_MO_in) (As := [.int (y), .int (nI (1)), .int (nI (4))]) (rest := []) d_MO_isGood_74 rfl cs_MO_54 rfl (Nat.le_of_ble_eq_true rfl) (Nat.le_of_ble_eq_true rfl) (by decide) (by decide) (d' := 0) (w' := 0) (by decide) (by decide) ?_
                                    show AW _ _ _ _ _ _ _ [(0, .int (y)), (1, .int (nI (1))), (2, .int (nI (4)))] _ _ _ _ _
                                    refine aw_iload_n d_MO_in_0 rfl 0 rfl ?_
                                    refine aw_iload_n d_MO_in_1 rfl 1 rfl ?_
                                    refine at_lt rfl (nI_toInt (by omega)) (tgt := 14) d_MO_in_2 (by decide) (fun c195 => ?_) (fun c195 => ?_)
                                    · skip
                                      refine aw_iconst (v := nI 0) d_MO_in_14 (by decide) ?_
                                      refine aw_zret (Or.inl rfl) d_MO_in_15 rfl (by decide) (by decide) (ab_go1 ?_)
                                      refine aw_if_neN (tgt := 82) d_MO_isGood_77 (by decide) (by omega) (fun c196 => ?_) (fun c196 => ?_)
                                      · skip
                                        exact absurd c196 (by decide)
                                      · skip
                                        refine aw_iconst (v := nI 0) d_MO_isGood_80 (by decide) ?_
                                        refine aw_zret (Or.inl rfl) d_MO_isGood_81 rfl (by decide) (by decide) ?_
                                        exact hF (by unfold nmP wtP; omega)
                                    · skip
                                      refine aw_iload_n d_MO_in_5 rfl 0 rfl ?_
                                      refine aw_iload_n d_MO_in_6 rfl 2 rfl ?_
                                      refine at_gt rfl (nI_toInt (by omega)) (tgt := 14) d_MO_in_7 (by decide) (fun c197 => ?_) (fun c197 => ?_)
                                      · skip
                                        refine aw_iconst (v := nI 0) d_MO_in_14 (by decide) ?_
                                        refine aw_zret (Or.inl rfl) d_MO_in_15 rfl (by decide) (by decide) (ab_go1 ?_)
                                        refine aw_if_neN (tgt := 82) d_MO_isGood_77 (by decide) (by omega) (fun c198 => ?_) (fun c198 => ?_)
                                        · skip
                                          exact absurd c198 (by decide)
                                        · skip
                                          refine aw_iconst (v := nI 0) d_MO_isGood_80 (by decide) ?_
                                          refine aw_zret (Or.inl rfl) d_MO_isGood_81 rfl (by decide) (by decide) ?_
                                          exact hF (by unfold nmP wtP; omega)
                                      · skip
                                        refine aw_iconst (v := nI 1) d_MO_in_10 (by decide) ?_
                                        refine aw_goto (tgt := 15) d_MO_in_11 (by decide) ?_
                                        refine aw_zret (Or.inr rfl) d_MO_in_15 rfl (by decide) (by decide) (ab_go1 ?_)
                                        refine aw_if_neN (tgt := 82) d_MO_isGood_77 (by decide) (by omega) (fun c199 => ?_) (fun c199 => ?_)
                                        · skip
                                          refine aw_iload_n d_MO_isGood_82 rfl 0 rfl ?_
                                          refine aw_iconst (v := nI 2) d_MO_isGood_83 (by decide) ?_
                                          refine at_lt rfl (nI_toInt (by omega)) (tgt := 122) d_MO_isGood_84 (by decide) (fun c200 => ?_) (fun c200 => ?_)
                                          · skip
                                            refine aw_iconst (v := nI 1) d_MO_isGood_122 (by decide) ?_
                                            refine aw_goto (tgt := 127) d_MO_isGood_123 (by decide) ?_
                                            refine aw_zret (Or.inr rfl) d_MO_isGood_127 rfl (by decide) (by decide) ?_
                                            exact hT (by unfold nmP wtP; omega)
                                          · skip
                                            refine aw_iload_n d_MO_isGood_87 rfl 0 rfl ?_
                                            refine aw_iconst (v := nI 4) d_MO_isGood_88 (by decide) ?_
                                            refine at_gt rfl (nI_toInt (by omega)) (tgt := 122) d_MO_isGood_89 (by decide) (fun c201 => ?_) (fun c201 => ?_)
                                            · skip
                                              refine aw_iconst (v := nI 1) d_MO_isGood_122 (by decide) ?_
                                              refine aw_goto (tgt := 127) d_MO_isGood_123 (by decide) ?_
                                              refine aw_zret (Or.inr rfl) d_MO_isGood_127 rfl (by decide) (by decide) ?_
                                              exact hT (by unfold nmP wtP; omega)
                                            · skip
                                              refine aw_dload_n d_MO_isGood_92 rfl 2 rfl ?_
                                              refine aw_dconst1 d_MO_isGood_93 ?_
                                              refine aw_dcmp d_MO_isGood_94 ?_
                                              refine ad_eq fw.n fF_one.n d_MO_isGood_95 (tgt := 122) (by decide) (fun c202 => ?_) (fun c202 => ?_)
                                              · skip
                                                refine aw_iconst (v := nI 1) d_MO_isGood_122 (by decide) ?_
                                                refine aw_goto (tgt := 127) d_MO_isGood_123 (by decide) ?_
                                                refine aw_zret (Or.inr rfl) d_MO_isGood_127 rfl (by decide) (by decide) ?_
                                                exact hT (by unfold nmP wtP; omega)
                                              · skip
                                                refine aw_dload_n d_MO_isGood_98 rfl 2 rfl ?_
                                                refine aw_ldc2d (v := 4611686018427387904) d_MO_isGood_99 mw_774 ?_
                                                refine aw_dcmp d_MO_isGood_102 ?_
                                                refine ad_eq fw.n fF_2.n d_MO_isGood_103 (tgt := 122) (by decide) (fun c203 => ?_) (fun c203 => ?_)
                                                · skip
                                                  refine aw_iconst (v := nI 1) d_MO_isGood_122 (by decide) ?_
                                                  refine aw_goto (tgt := 127) d_MO_isGood_123 (by decide) ?_
                                                  refine aw_zret (Or.inr rfl) d_MO_isGood_127 rfl (by decide) (by decide) ?_
                                                  exact hT (by unfold nmP wtP; omega)
                                                · skip
                                                  refine aw_dload_n d_MO_isGood_106 rfl 2 rfl ?_
                                                  refine aw_ldc2d (v := 4613937818241073152) d_MO_isGood_107 mw_867 ?_
                                                  refine aw_dcmp d_MO_isGood_110 ?_
                                                  refine ad_eq fw.n fF_3.n d_MO_isGood_111 (tgt := 122) (by decide) (fun c204 => ?_) (fun c204 => ?_)
                                                  · skip
                                                    refine aw_iconst (v := nI 1) d_MO_isGood_122 (by decide) ?_
                                                    refine aw_goto (tgt := 127) d_MO_isGood_123 (by decide) ?_
                                                    refine aw_zret (Or.inr rfl) d_MO_isGood_127 rfl (by decide) (by decide) ?_
                                                    exact hT (by unfold nmP wtP; omega)
                                                  · skip
                                                    refine aw_dload_n d_MO_isGood_114 rfl 2 rfl ?_
                                                    refine aw_ldc2d (v := 4616189618054758400) d_MO_isGood_115 mw_868 ?_
                                                    refine aw_dcmp d_MO_isGood_118 ?_
                                                    refine ad_ne fw.n fF_4.n d_MO_isGood_119 (tgt := 126) (by decide) (fun c205 => ?_) (fun c205 => ?_)
                                                    · skip
                                                      refine aw_iconst (v := nI 0) d_MO_isGood_126 (by decide) ?_
                                                      refine aw_zret (Or.inl rfl) d_MO_isGood_127 rfl (by decide) (by decide) ?_
                                                      exact hF (by unfold nmP wtP; omega)
                                                    · skip
                                                      refine aw_iconst (v := nI 1) d_MO_isGood_122 (by decide) ?_
                                                      refine aw_goto (tgt := 127) d_MO_isGood_123 (by decide) ?_
                                                      refine aw_zret (Or.inr rfl) d_MO_isGood_127 rfl (by decide) (by decide) ?_
                                                      exact hT (by unfold nmP wtP; omega)
                                        · skip
                                          exact absurd c199 (by decide)
          · skip
            refine aw_iconst (v := nI 0) d_MO_isGood_24 (by decide) ?_
            refine aw_zret (Or.inl rfl) d_MO_isGood_25 rfl (by decide) (by decide) ?_
            exact hF (by unfold nmP wtP; omega)
set_option maxRecDepth 4000 in
theorem C_token_bad {l : Launch} {M : ab_M} {Q : ab_O → ab_M → Prop} (hl : l.stackTraces = false) {x y : Int32} {w : UInt64} (fw : fF w) (hb : ¬ (nmP x.toInt y.toInt ∧ wtP x.toInt (fz w))) (hQ : Q (.inr "java/lang/IllegalArgumentException") M) : AW sys l ab_Zt k_BF_token 6 90 0 [(0, .ref (0)), (1, .int (x)), (2, .int (y)), (3, .double (w))] [] M 0 0 Q := by
  refine aw_iload_n d_BF_token_0 rfl 1 rfl ?_
  refine aw_iload_n d_BF_token_1 rfl 2 rfl ?_
  refine aw_callS (K' := k_BF_isNumberOf) (As := [.int (x), .int (y)]) (rest := []) d_BF_token_2 rfl cs_BF_96 rfl (Nat.le_of_ble_eq_true rfl) (Nat.le_of_ble_eq_true rfl) (by decide) (by decide) (d' := 1) (w' := 20) (by decide) (by decide) ?_
  show AW _ _ _ _ _ _ _ [(0, .int (x)), (1, .int (y))] _ _ _ _ _
  refine A_isNumberOf (fun h1 => ?_) (fun h1 => ?_)
  · refine ab_go1 ?_
    refine aw_if_neN (tgt := 18) d_BF_token_5 (by decide) (by omega) (fun c2 => ?_) (fun c2 => ?_)
    · skip
      refine aw_iload_n d_BF_token_18 rfl 1 rfl ?_
      refine aw_dload_n d_BF_token_19 rfl 3 rfl ?_
      refine aw_callS (K' := k_BF_isWeightOf) (As := [.int (x), .double (w)]) (rest := []) d_BF_token_20 rfl cs_BF_102 rfl (Nat.le_of_ble_eq_true rfl) (Nat.le_of_ble_eq_true rfl) (by decide) (by decide) (d' := 1) (w' := 23) (by decide) (by decide) ?_
      show AW _ _ _ _ _ _ _ [(0, .int (x)), (1, .double (w))] _ _ _ _ _
      refine A_isWeightOf fw (fun h3 => ?_) (fun h3 => ?_)
      · refine ab_go1 ?_
        refine aw_if_neN (tgt := 36) d_BF_token_23 (by decide) (by omega) (fun c4 => ?_) (fun c4 => ?_)
        · skip
          exact absurd ⟨h1, h3⟩ hb
        · skip
          exact absurd c4 (by decide)
      · refine ab_go1 ?_
        refine aw_if_neN (tgt := 36) d_BF_token_23 (by decide) (by omega) (fun c5 => ?_) (fun c5 => ?_)
        · skip
          exact absurd c5 (by decide)
        · skip
          refine th_IAE hl rfl d_BF_token_26 d_BF_token_29 d_BF_token_30 d_BF_token_32 d_BF_token_35 (List.mem_of_getElem? (i := 7) rfl) rfl (by decide) (by decide) (by decide) (by decide) ?_
          exact hQ
    · skip
      exact absurd c2 (by decide)
  · refine ab_go1 ?_
    refine aw_if_neN (tgt := 18) d_BF_token_5 (by decide) (by omega) (fun c6 => ?_) (fun c6 => ?_)
    · skip
      exact absurd c6 (by decide)
    · skip
      refine th_IAE hl rfl d_BF_token_8 d_BF_token_11 d_BF_token_12 d_BF_token_14 d_BF_token_17 (List.mem_of_getElem? (i := 6) rfl) rfl (by decide) (by decide) (by decide) (by decide) ?_
      exact hQ
set_option maxRecDepth 4000 in
theorem A_parts1 {l : Launch} {M : ab_M} {Q : ab_O → ab_M → Prop} {T : Qg} {t : Nat} (hg : tgood T t) (ht : t < 24) (h18 : M.1 18 t = nI (qk T t)) (h19 : M.1 19 t = nI (qa T t)) (h20 : M.2.1 20 t = qw T t) (hQ : Q (.inl (some (.int (nI (prt T t))))) M) : AW sys l ab_Zt k_QU_partsOf 0 0 0 [(0, .ref (17)), (1, .int (nI (t)))] [] M 0 0 Q := by
  obtain ⟨g1, g2, g3, g4, g5, g6⟩ := hg
  refine aw_aload_n d_QU_partsOf_0 rfl 0 rfl ?_
  refine aw_get (ic := 17) (ci := 2) (k := 0) (v := .ref 18) d_QU_partsOf_1 rfl rfl (by decide) rfl mw_92 rfl ?_
  refine aw_iload_n d_QU_partsOf_4 rfl 1 rfl ?_
  refine aw_ialdN d_QU_partsOf_5 rfl (by decide) (by omega) ?_
  refine aw_eqi (nI (qk T t)) h18 ?_
  by_cases c1 : qk T t = 2 ∨ qk T t = 3 ∨ qk T t = 4
  · refine aw_tabN 60 (by omega) d_QU_partsOf_6 (by rcases c1 with h | h | h <;> rw [h] <;> exact Or.inr ⟨_, by decide, by decide, rfl, by decide⟩) ?_
    refine aw_aload_n d_QU_partsOf_60 rfl 0 rfl ?_
    refine aw_get (ic := 17) (ci := 2) (k := 2) (v := .ref 20) d_QU_partsOf_61 rfl rfl (by decide) rfl mw_94 rfl ?_
    refine aw_iload_n d_QU_partsOf_64 rfl 1 rfl ?_
    refine aw_daldN d_QU_partsOf_65 rfl (by decide) (by omega) ?_
    refine aw_eqd (qw T t) h20 ?_
    refine aw_d2i d_QU_partsOf_66 ?_
    refine aw_iret d_QU_partsOf_67 rfl (by decide) (by decide) ?_
    first | exact q_i (by rw [prt_win (by omega) (by omega), (g5 (by omega) (by omega)).1]) hQ | exact q_n (by rw [prt_num (by omega) (by omega)]) hQ | exact q_n (by rw [prt_1 (by omega)]) hQ | exact q_n (by rw [prt_0 (by omega)]) hQ | exact q_n (by rw [prt_2 (by omega)]) hQ
  by_cases c2 : qk T t = 5 ∨ qk T t = 6 ∨ qk T t = 7 ∨ qk T t = 8 ∨ qk T t = 9
  · refine aw_tabN 68 (by omega) d_QU_partsOf_6 (by rcases c2 with h | h | h | h | h <;> rw [h] <;> exact Or.inr ⟨_, by decide, by decide, rfl, by decide⟩) ?_
    refine aw_aload_n d_QU_partsOf_68 rfl 0 rfl ?_
    refine aw_get (ic := 17) (ci := 2) (k := 1) (v := .ref 19) d_QU_partsOf_69 rfl rfl (by decide) rfl mw_93 rfl ?_
    refine aw_iload_n d_QU_partsOf_72 rfl 1 rfl ?_
    refine aw_ialdN d_QU_partsOf_73 rfl (by decide) (by omega) ?_
    refine aw_eqi (nI (qa T t)) h19 ?_
    refine aw_iret d_QU_partsOf_74 rfl (by decide) (by decide) ?_
    first | exact q_i (by rw [prt_win (by omega) (by omega), (g5 (by omega) (by omega)).1]) hQ | exact q_n (by rw [prt_num (by omega) (by omega)]) hQ | exact q_n (by rw [prt_1 (by omega)]) hQ | exact q_n (by rw [prt_0 (by omega)]) hQ | exact q_n (by rw [prt_2 (by omega)]) hQ
  by_cases c3 : qk T t = 10
  · refine aw_tabN 75 (by omega) d_QU_partsOf_6 (by rw [c3]; exact Or.inr ⟨_, by decide, by decide, rfl, by decide⟩) ?_
    refine aw_iconst (v := nI 1) d_QU_partsOf_75 (by decide) ?_
    refine aw_iret d_QU_partsOf_76 rfl (by decide) (by decide) ?_
    first | exact q_i (by rw [prt_win (by omega) (by omega), (g5 (by omega) (by omega)).1]) hQ | exact q_n (by rw [prt_num (by omega) (by omega)]) hQ | exact q_n (by rw [prt_1 (by omega)]) hQ | exact q_n (by rw [prt_0 (by omega)]) hQ | exact q_n (by rw [prt_2 (by omega)]) hQ
  by_cases c4 : qk T t = 11
  · refine aw_tabN 77 (by omega) d_QU_partsOf_6 (by rw [c4]; exact Or.inr ⟨_, by decide, by decide, rfl, by decide⟩) ?_
    refine aw_iconst (v := nI 2) d_QU_partsOf_77 (by decide) ?_
    refine aw_iret d_QU_partsOf_78 rfl (by decide) (by decide) ?_
    first | exact q_i (by rw [prt_win (by omega) (by omega), (g5 (by omega) (by omega)).1]) hQ | exact q_n (by rw [prt_num (by omega) (by omega)]) hQ | exact q_n (by rw [prt_1 (by omega)]) hQ | exact q_n (by rw [prt_0 (by omega)]) hQ | exact q_n (by rw [prt_2 (by omega)]) hQ
  refine aw_tabN 79 (by omega) d_QU_partsOf_6 (Or.inl ⟨by omega, by decide⟩) ?_
  refine aw_iconst (v := nI 0) d_QU_partsOf_79 (by decide) ?_
  refine aw_iret d_QU_partsOf_80 rfl (by decide) (by decide) ?_
  first | exact q_i (by rw [prt_win (by omega) (by omega), (g5 (by omega) (by omega)).1]) hQ | exact q_n (by rw [prt_num (by omega) (by omega)]) hQ | exact q_n (by rw [prt_1 (by omega)]) hQ | exact q_n (by rw [prt_0 (by omega)]) hQ | exact q_n (by rw [prt_2 (by omega)]) hQ
set_option maxRecDepth 4000 in
theorem A_partAtE_loop {l : Launch} {M : ab_M} {Q : ab_O → ab_M → Prop} {E : Nat → Nat} {t n q : Nat} (hq : q ≤ 24) (hn4 : n ≤ 4) (ht24 : t < 24) (hE : ∀ i, t < i → i < q → M.1 21 i = nI (E i)) (hc : ∀ j, j < n → t < itE E j (t + 1) ∧ itE E j (t + 1) < q) (hQ : Q (.inl (some (.int (nI (itE E n (t + 1)))))) M) : ∀ (mm : Nat) (i : Nat), n - i = mm → (hi : i ≤ n) → AW sys l ab_Zt k_QU_partAt 0 0 7 [(4, .int (nI (i))), (3, .int (nI (itE E i (t + 1)))), (0, .ref (17)), (1, .int (nI (t))), (2, .int (nI (n)))] [] M 0 0 Q := by
  intro mm
  induction mm using Nat.strongRecOn with
  | ind mm ih =>
    intro i hk hi
    have hci := hc i
    refine aw_iload d_QU_partAt_7 0 rfl ?_
    refine aw_iload_n d_QU_partAt_9 rfl 4 rfl ?_
    refine aw_icmp_geN (tgt := 26) d_QU_partAt_10 (by decide) (by omega) (by omega) (fun c1 => ?_) (fun c1 => ?_)
    · skip
      refine aw_iload_n d_QU_partAt_26 rfl 1 rfl ?_
      refine aw_iret d_QU_partAt_27 rfl (by decide) (by decide) ?_
      exact q_n (by rw [show i = n by omega]) hQ
    · skip
      refine aw_aload_n d_QU_partAt_13 rfl 2 rfl ?_
      refine aw_get (ic := 17) (ci := 2) (k := 3) (v := .ref 21) d_QU_partAt_14 rfl rfl (by decide) rfl mw_95 rfl ?_
      refine aw_iload_n d_QU_partAt_17 rfl 1 rfl ?_
      refine aw_ialdN d_QU_partAt_18 rfl (by decide) (by omega) ?_
      refine aw_eqi (nI (E (itE E i (t + 1)))) (hE _ (hc i (by omega)).1 (hc i (by omega)).2) ?_
      refine aw_istore_n (lv' := [(3, .int (nI (E (itE E i (t + 1))))), (4, .int (nI (i))), (0, .ref (17)), (1, .int (nI (t))), (2, .int (nI (n)))]) d_QU_partAt_19 rfl (by decide) rfl ?_
      refine aw_iinc (v := (nI (i + 1))) (lv' := [(4, .int (nI (i + 1))), (3, .int (nI (E (itE E i (t + 1))))), (0, .ref (17)), (1, .int (nI (t))), (2, .int (nI (n)))]) d_QU_partAt_20 (j := 1) rfl (nI_add (i) 1) (by decide) rfl ?_
      refine aw_goto (tgt := 7) d_QU_partAt_23 (by decide) ?_
      exact ih _ (by omega) (i + 1) rfl (by omega)
set_option maxRecDepth 4000 in
theorem A_partAtE {l : Launch} {M : ab_M} {Q : ab_O → ab_M → Prop} {E : Nat → Nat} {t n q : Nat} (hq : q ≤ 24) (hn4 : n ≤ 4) (ht24 : t < 24) (hE : ∀ i, t < i → i < q → M.1 21 i = nI (E i)) (hc : ∀ j, j < n → t < itE E j (t + 1) ∧ itE E j (t + 1) < q) (hQ : Q (.inl (some (.int (nI (itE E n (t + 1)))))) M) : AW sys l ab_Zt k_QU_partAt 0 0 0 [(0, .ref (17)), (1, .int (nI (t))), (2, .int (nI (n)))] [] M 0 0 Q := by
  refine aw_iload_n d_QU_partAt_0 rfl 1 rfl ?_
  refine aw_iconst (v := nI 1) d_QU_partAt_1 (by decide) ?_
  refine aw_iaddN d_QU_partAt_2 ?_
  refine aw_istore_n (lv' := [(3, .int (nI (t + 1))), (0, .ref (17)), (1, .int (nI (t))), (2, .int (nI (n)))]) d_QU_partAt_3 rfl (by decide) rfl ?_
  refine aw_iconst (v := nI 0) d_QU_partAt_4 (by decide) ?_
  refine aw_istore (lv' := [(4, .int (nI (0))), (3, .int (nI (t + 1))), (0, .ref (17)), (1, .int (nI (t))), (2, .int (nI (n)))]) d_QU_partAt_5 (by decide) rfl ?_
  exact A_partAtE_loop hq hn4 ht24 hE hc hQ _ 0 rfl (by omega)
set_option maxRecDepth 4000 in
theorem A_markEnds_loop {l : Launch} {M : ab_M} {Q : ab_O → ab_M → Prop} {T : Qg} (wq : wQ T) (qa' : iQA T M) (h0 : op T (qn T) = 0) (hQ : ∀ M', frE M M' → (∀ t, t < qn T → M'.1 21 t = nI (en T t)) → Q (.inl none) M') : ∀ (mm : Nat) (j : Nat) (M1 : ab_M), j = mm → (hj : j ≤ qn T) → (hf : frE M M1) → (hb : ∀ i, j ≤ i → i < qn T → M1.1 21 i = nI (eb T (qn T - j) i)) → AW sys l ab_Zt k_QU_markEnds 1 24 7 [(1, .int (nI (j) - nI 1)), (0, .ref (17))] [] M1 0 0 Q := by
  intro mm
  induction mm using Nat.strongRecOn with
  | ind mm ih =>
    intro j M1 hk hj hf hb
    have h24 := wq.1
    refine aw_iload_n d_QU_markEnds_7 rfl 0 rfl ?_
    refine aw_if_ltM (tgt := 33) d_QU_markEnds_8 (by decide) (fun c1 => ?_) (fun c1 => ?_)
    · skip
      refine aw_vret d_QU_markEnds_33 rfl (by decide) (by decide) ?_
      exact hQ M1 hf (fun t h => by have := hb t (by omega) h; rw [show qn T - j = qn T by omega] at this; exact this)
    · skip
      obtain ⟨jp, rfl⟩ : ∃ jp, j = jp + 1 := ⟨j - 1, by omega⟩
      rw [nI_m1 jp]
      have hjp : jp < qn T := by omega
      have hp4 := prt_le (wq.2.1 jp hjp)
      have hop := wq.2.2.1 jp hjp
      have hos := op_succ hop
      have hch := (eb_chain wq h0 (qn T - (jp + 1)) (by omega)).1 (jp + 1) (by omega) (by omega)
      refine aw_aload_n d_QU_markEnds_11 rfl 1 rfl ?_
      refine aw_get (ic := 17) (ci := 2) (k := 3) (v := .ref 21) d_QU_markEnds_12 rfl rfl (by decide) rfl mw_95 rfl ?_
      refine aw_iload_n d_QU_markEnds_15 rfl 0 rfl ?_
      refine aw_aload_n d_QU_markEnds_16 rfl 1 rfl ?_
      refine aw_iload_n d_QU_markEnds_17 rfl 0 rfl ?_
      refine aw_aload_n d_QU_markEnds_18 rfl 1 rfl ?_
      refine aw_iload_n d_QU_markEnds_19 rfl 0 rfl ?_
      refine aw_callV (K' := k_QU_partsOf) (As := [.int (nI (jp))]) (rest := [.int (nI (jp)), .ref (17), .int (nI (jp)), .ref (21)]) (b := 17) d_QU_markEnds_20 rfl rfl rfl cs_QU_35 rfl (Nat.le_of_ble_eq_true rfl) (Nat.le_of_ble_eq_true rfl) (by decide) (by decide) (d' := 0) (w' := 0) (by decide) (by decide) ?_
      show AW _ _ _ _ _ _ _ [(0, .ref (17)), (1, .int (nI (jp)))] _ _ _ _ _
      refine A_parts1 (wq.2.1 jp hjp) (by omega) (by rw [hf.1 _ _ (by omega)]; exact qa'.2.1 jp hjp) (by rw [hf.1 _ _ (by omega)]; exact qa'.2.2.1 jp hjp) (by rw [hf.2]; exact qa'.2.2.2 jp hjp) ?_
      refine ab_go1 ?_
      refine aw_callV (K' := k_QU_partAt) (As := [.int (nI (jp)), .int (nI (prt T jp))]) (rest := [.int (nI (jp)), .ref (21)]) (b := 17) d_QU_markEnds_23 rfl rfl rfl cs_QU_50 rfl (Nat.le_of_ble_eq_true rfl) (Nat.le_of_ble_eq_true rfl) (by decide) (by decide) (d' := 0) (w' := 0) (by decide) (by decide) ?_
      show AW _ _ _ _ _ _ _ [(0, .ref (17)), (1, .int (nI (jp))), (2, .int (nI (prt T jp)))] _ _ _ _ _
      refine A_partAtE (E := eb T (qn T - (jp + 1))) (q := qn T) (by omega) hp4 (by omega) (fun i h1 h2 => hb i (by omega) h2) (fun z hz => by have := hch.1 z (by omega); exact ⟨by omega, this.2⟩) ?_
      refine ab_go1 ?_
      refine aw_iastN d_QU_markEnds_26 rfl (by decide) (by omega) ?_
      refine aw_iinc (v := (nI (jp) - nI 1)) (lv' := [(1, .int (nI (jp) - nI 1)), (0, .ref (17))]) d_QU_markEnds_27 (j := 0) rfl (nI_dm (jp)) (by decide) rfl ?_
      refine aw_goto (tgt := 7) d_QU_markEnds_30 (by decide) ?_
      exact ih _ (by omega) jp _ rfl (by omega) ⟨fun a i h => by rw [sI_ne (by omega)]; exact hf.1 a i h, by exact hf.2⟩ (me_step hj hb)
set_option maxRecDepth 4000 in
theorem A_markEnds {l : Launch} {M : ab_M} {Q : ab_O → ab_M → Prop} {T : Qg} (wq : wQ T) (qa' : iQA T M) (h0 : op T (qn T) = 0) (hQ : ∀ M', frE M M' → (∀ t, t < qn T → M'.1 21 t = nI (en T t)) → Q (.inl none) M') : AW sys l ab_Zt k_QU_markEnds 1 24 0 [(0, .ref (17))] [] M 0 0 Q := by
  have h24 := wq.1
  refine aw_aload_n d_QU_markEnds_0 rfl 0 rfl ?_
  refine aw_get (ic := 17) (ci := 2) (k := 4) d_QU_markEnds_1 rfl rfl (by decide) rfl mw_96 rfl ?_
  refine aw_eqi (nI (qn T)) qa'.1 ?_
  refine aw_iconst (v := nI 1) d_QU_markEnds_4 (by decide) ?_
  refine aw_isub d_QU_markEnds_5 ?_
  refine aw_istore_n (lv' := [(1, .int (nI (qn T) - nI 1)), (0, .ref (17))]) d_QU_markEnds_6 rfl (by decide) rfl ?_
  exact A_markEnds_loop wq qa' h0 hQ _ (qn T) M rfl (Nat.le_refl _) ⟨fun _ _ _ => rfl, rfl⟩ (fun i h1 h2 => by omega)
set_option maxRecDepth 4000 in
theorem A_append {l : Launch} {M : ab_M} {Q : ab_O → ab_M → Prop} {T : Qg} (wq : wQ T) (qc : iQC T M) {k a : Nat} {w : UInt64} (hn : qn T < 24) (ho : op T (qn T) ≠ 0) (hg : gTok k a w) (hk : 0 < tw T (qn T) → k = 0) (hQ : ∀ M', iQC (addQ T k a w) M' → (∀ b i, b < 17 ∨ 21 < b → M'.1 b i = M.1 b i ∧ M'.2.1 b i = M.2.1 b i ∧ M'.2.2 b i = M.2.2 b i) → Q (.inl (some (.int (nI (qn T + 1))))) M') : AW sys l ab_Zt k_QU_append 2 45 0 [(0, .ref (17)), (1, .int (nI (k))), (2, .int (nI (a))), (3, .double (w))] [] M 0 0 Q := by
  have h24 := wq.1
  have hpl := prt_le (addQ_g' (T := T) hg)
  have htw := tw_le (T := T) (qn T) (fun t h => wq.2.1 t h)
  have hop := op_le (T := T) (qn T) (fun t h => wq.2.1 t h)
  have hop2 := op_le (T := addQ T k a w) (qn T + 1) (fun t h => (addQ_wf wq hn ho hg hk).2.1 t h)
  have hk11 := hg.1
  have a18 : ∀ t, t < qn T + 1 → (ab_sI M 18 (qn T) (nI k)).1 18 t = nI (qk (addQ T k a w) t) := fun t ht => by rcases Nat.eq_or_lt_of_le (Nat.le_of_lt_succ ht) with e | e; rw [e, sI_hit, addQ_k']; rw [sI_ne (by omega), addQ_k (by omega)]; exact qc.2.1 t (by omega)
  have a19 : ∀ t, t < qn T + 1 → (ab_sI (ab_sI M 18 (qn T) (nI k)) 19 (qn T) (nI a)).1 19 t = nI (qa (addQ T k a w) t) := fun t ht => by rcases Nat.eq_or_lt_of_le (Nat.le_of_lt_succ ht) with e | e; rw [e, sI_hit, addQ_a']; rw [sI_ne (by omega), sI_ne (by omega), addQ_a (by omega)]; exact qc.2.2.1 t (by omega)
  have a20 : ∀ t, t < qn T + 1 → (ab_sD (ab_sI (ab_sI M 18 (qn T) (nI k)) 19 (qn T) (nI a)) 20 (qn T) w).2.1 20 t = qw (addQ T k a w) t := fun t ht => by rcases Nat.eq_or_lt_of_le (Nat.le_of_lt_succ ht) with e | e; rw [e, sD_hit, addQ_w']; rw [sD_ne (by omega), addQ_w (by omega)]; exact qc.2.2.2.1 t (by omega)
  refine aw_aload_n d_QU_append_0 rfl 0 rfl ?_
  refine aw_get (ic := 17) (ci := 2) (k := 4) d_QU_append_1 rfl rfl (by decide) rfl mw_96 rfl ?_
  refine aw_eqi (nI (qn T)) qc.1 ?_
  refine aw_istore (lv' := [(5, .int (nI (qn T))), (0, .ref (17)), (1, .int (nI (k))), (2, .int (nI (a))), (3, .double (w))]) d_QU_append_4 (by decide) rfl ?_
  refine aw_aload_n d_QU_append_6 rfl 1 rfl ?_
  refine aw_get (ic := 17) (ci := 2) (k := 0) (v := .ref 18) d_QU_append_7 rfl rfl (by decide) rfl mw_92 rfl ?_
  refine aw_iload d_QU_append_10 0 rfl ?_
  refine aw_iload_n d_QU_append_12 rfl 2 rfl ?_
  refine aw_iastN d_QU_append_13 rfl (by decide) (by omega) ?_
  refine aw_aload_n d_QU_append_14 rfl 1 rfl ?_
  refine aw_get (ic := 17) (ci := 2) (k := 1) (v := .ref 19) d_QU_append_15 rfl rfl (by decide) rfl mw_93 rfl ?_
  refine aw_iload d_QU_append_18 0 rfl ?_
  refine aw_iload_n d_QU_append_20 rfl 3 rfl ?_
  refine aw_iastN d_QU_append_21 rfl (by decide) (by omega) ?_
  refine aw_aload_n d_QU_append_22 rfl 1 rfl ?_
  refine aw_get (ic := 17) (ci := 2) (k := 2) (v := .ref 20) d_QU_append_23 rfl rfl (by decide) rfl mw_94 rfl ?_
  refine aw_iload d_QU_append_26 0 rfl ?_
  refine aw_dload_n d_QU_append_28 rfl 4 rfl ?_
  refine aw_dastN d_QU_append_29 rfl (by decide) (by omega) ?_
  refine aw_aload_n d_QU_append_30 rfl 1 rfl ?_
  refine aw_dup d_QU_append_31 rfl ?_
  refine aw_get (ic := 17) (ci := 2) (k := 4) d_QU_append_32 rfl rfl (by decide) rfl mw_96 rfl ?_
  refine aw_eqi (nI (qn T)) (by (repeat (first | rw [sI_ne (by omega)] | rw [sD_1])); exact qc.1) ?_
  refine aw_iconst (v := nI 1) d_QU_append_35 (by decide) ?_
  refine aw_iaddN d_QU_append_36 ?_
  refine aw_putI (ic := 17) (ci := 2) (k := 4) d_QU_append_37 rfl rfl (by decide) rfl rfl rfl mw_96 ?_
  refine aw_aload_n d_QU_append_40 rfl 1 rfl ?_
  refine aw_dup d_QU_append_41 rfl ?_
  refine aw_get (ic := 17) (ci := 2) (k := 5) d_QU_append_42 rfl rfl (by decide) rfl mw_97 rfl ?_
  refine aw_eqi (nI (op T (qn T))) (by (repeat (first | rw [sI_ne (by omega)] | rw [sD_1])); exact qc.2.2.2.2.1) ?_
  refine aw_aload_n d_QU_append_45 rfl 1 rfl ?_
  refine aw_iload d_QU_append_46 0 rfl ?_
  refine aw_callV (K' := k_QU_partsOf) (As := [.int (nI (qn T))]) (rest := [.int (nI (op T (qn T))), .ref (17)]) (b := 17) d_QU_append_48 rfl rfl rfl cs_QU_35 rfl (Nat.le_of_ble_eq_true rfl) (Nat.le_of_ble_eq_true rfl) (by decide) (by decide) (d' := 0) (w' := 0) (by decide) (by decide) ?_
  show AW _ _ _ _ _ _ _ [(0, .ref (17)), (1, .int (nI (qn T)))] _ _ _ _ _
  refine A_parts1 (T := addQ T k a w) (addQ_g' hg) hn (by rw [addQ_k']; (repeat (first | rw [sI_ne (by omega)] | rw [sD_1])); exact sI_hit _ _ _ _) (by rw [addQ_a']; (repeat (first | rw [sI_ne (by omega)] | rw [sD_1])); exact sI_hit _ _ _ _) (by rw [addQ_w']; simp only [sI_2]; exact sD_hit _ _ _ _) ?_
  refine ab_go1 ?_
  refine aw_iconst (v := nI 1) d_QU_append_51 (by decide) ?_
  refine aw_isub d_QU_append_52 ?_
  refine aw_iadd d_QU_append_53 ?_
  refine aw_eqi (nI (op (addQ T k a w) (qn T + 1))) (by rw [← addQ_op (k := k) (a := a) (w := w) (qn T) (Nat.le_refl _)]; exact op_nI (by rw [addQ_op _ (Nat.le_refl _)]; omega)) ?_
  refine aw_putI (ic := 17) (ci := 2) (k := 5) d_QU_append_54 rfl rfl (by decide) rfl rfl rfl mw_97 ?_
  refine aw_iload_n d_QU_append_57 rfl 2 rfl ?_
  refine aw_callSN (K' := k_BF_isWindow) (As := [.int (nI (k))]) (rest := []) d_QU_append_58 wn_QU_39 cs_QU_39 rfl (Nat.le_of_ble_eq_true rfl) (Nat.le_of_ble_eq_true rfl) (by decide) (by decide) (d' := 0) (w' := 0) (by decide) (by decide) ?_
  show AW _ _ _ _ _ _ _ [(0, .int (nI (k)))] _ _ _ _ _
  refine aw_iload_n d_BF_isWindow_0 rfl 0 rfl ?_
  refine aw_iconst (v := nI 2) d_BF_isWindow_1 (by decide) ?_
  refine aw_icmp_ltN (tgt := 14) d_BF_isWindow_2 (by decide) (by omega) (by omega) (fun c1 => ?_) (fun c1 => ?_)
  · skip
    refine aw_iconst (v := nI 0) d_BF_isWindow_14 (by decide) ?_
    refine aw_zret (Or.inl rfl) d_BF_isWindow_15 rfl (by decide) (by decide) (ab_go1 ?_)
    refine aw_if_eqN (tgt := 77) d_QU_append_61 (by decide) (by omega) (fun c2 => ?_) (fun c2 => ?_)
    · skip
      refine aw_aload_n d_QU_append_77 rfl 1 rfl ?_
      refine aw_get (ic := 17) (ci := 2) (k := 6) d_QU_append_78 rfl rfl (by decide) rfl mw_98 rfl ?_
      refine aw_eqi (nI (tw T (qn T))) (by (repeat (first | rw [sI_ne (by omega)] | rw [sD_1])); exact qc.2.2.2.2.2.1) ?_
      refine aw_if_leN (tgt := 94) d_QU_append_81 (by decide) (by omega) (fun c3 => ?_) (fun c3 => ?_)
      · skip
        refine aw_aload_n d_QU_append_94 rfl 1 rfl ?_
        refine aw_callV (K' := k_QU_isWhole) (As := []) (rest := []) (b := 17) d_QU_append_95 rfl rfl rfl cs_QU_43 rfl (Nat.le_of_ble_eq_true rfl) (Nat.le_of_ble_eq_true rfl) (by decide) (by decide) (d' := 0) (w' := 0) (by decide) (by decide) ?_
        show AW _ _ _ _ _ _ _ [(0, .ref (17))] _ _ _ _ _
        refine aw_aload_n d_QU_isWhole_0 rfl 0 rfl ?_
        refine aw_get (ic := 17) (ci := 2) (k := 5) d_QU_isWhole_1 rfl rfl (by decide) rfl mw_97 rfl ?_
        refine aw_eqi (nI (op (addQ T k a w) (qn T + 1))) (by (repeat (first | rw [sI_ne (by omega)] | rw [sD_1])); exact sI_hit _ _ _ _) ?_
        refine aw_if_neN (tgt := 11) d_QU_isWhole_4 (by decide) (by omega) (fun c4 => ?_) (fun c4 => ?_)
        · skip
          refine aw_iconst (v := nI 0) d_QU_isWhole_11 (by decide) ?_
          refine aw_zret (Or.inl rfl) d_QU_isWhole_12 rfl (by decide) (by decide) (ab_go1 ?_)
          refine aw_if_eqN (tgt := 105) d_QU_append_98 (by decide) (by omega) (fun c5 => ?_) (fun c5 => ?_)
          · skip
            refine aw_aload_n d_QU_append_105 rfl 1 rfl ?_
            refine aw_get (ic := 17) (ci := 2) (k := 4) d_QU_append_106 rfl rfl (by decide) rfl mw_96 rfl ?_
            refine aw_eqi (nI (qn T + 1)) (by (repeat (first | rw [sI_ne (by omega)] | rw [sD_1])); exact sI_hit _ _ _ _) ?_
            refine aw_iret d_QU_append_109 rfl (by decide) (by decide) ?_
            refine hQ _ ⟨by (repeat (first | rw [sI_ne (by omega)] | rw [sD_1])); exact sI_hit _ _ _ _, fun t ht => by (repeat (first | rw [sI_ne (by omega)] | rw [sD_1])); exact a18 t ht, fun t ht => by (repeat (first | rw [sI_ne (by omega)] | rw [sD_1])); exact a19 t ht, fun t ht => by simp only [sI_2]; exact a20 t ht, by rw [addQ_n]; (repeat (first | rw [sI_ne (by omega)] | rw [sD_1])); exact sI_hit _ _ _ _, by rw [addQ_n]; rw [show tw (addQ T k a w) (qn T + 1) = tw T (qn T) by simp only [tw]; rw [if_neg (by rw [addQ_k']; omega), addQ_tw _ (Nat.le_refl _)]; omega]; (repeat (first | rw [sI_ne (by omega)] | rw [sD_1])); first | exact sI_hit _ _ _ _ | exact qc.2.2.2.2.2.1, fun h => by rw [addQ_n] at h; omega⟩ (fun b i hb => ⟨?_, ?_, ?_⟩)
            · (repeat (first | rw [sI_ne (by omega)] | rw [sD_1]))
            · simp only [sI_2]; rw [sD_ne (by omega)]; rfl
            · rfl
          · skip
            exact absurd c5 (by decide)
        · skip
          refine aw_iconst (v := nI 1) d_QU_isWhole_7 (by decide) ?_
          refine aw_goto (tgt := 12) d_QU_isWhole_8 (by decide) ?_
          refine aw_zret (Or.inr rfl) d_QU_isWhole_12 rfl (by decide) (by decide) (ab_go1 ?_)
          refine aw_if_eqN (tgt := 105) d_QU_append_98 (by decide) (by omega) (fun c6 => ?_) (fun c6 => ?_)
          · skip
            exact absurd c6 (by decide)
          · skip
            refine aw_aload_n d_QU_append_101 rfl 1 rfl ?_
            refine aw_callV (K' := k_QU_markEnds) (As := []) (rest := []) (b := 17) d_QU_append_102 rfl rfl rfl cs_QU_47 rfl (Nat.le_of_ble_eq_true rfl) (Nat.le_of_ble_eq_true rfl) (by decide) (by decide) (d' := 1) (w' := 24) (by decide) (by decide) ?_
            show AW _ _ _ _ _ _ _ [(0, .ref (17))] _ _ _ _ _
            refine A_markEnds (T := addQ T k a w) (addQ_wf wq hn ho hg hk) ?_ (by rw [addQ_n]; omega) (fun M9 hf9 he9 => ?_)
            · exact ⟨by (repeat (first | rw [sI_ne (by omega)] | rw [sD_1])); exact sI_hit _ _ _ _, fun t ht => by (repeat (first | rw [sI_ne (by omega)] | rw [sD_1])); exact a18 t ht, fun t ht => by (repeat (first | rw [sI_ne (by omega)] | rw [sD_1])); exact a19 t ht, fun t ht => by simp only [sI_2]; exact a20 t ht⟩
            refine ab_go0 ?_
            refine aw_aload_n d_QU_append_105 rfl 1 rfl ?_
            refine aw_get (ic := 17) (ci := 2) (k := 4) d_QU_append_106 rfl rfl (by decide) rfl mw_96 rfl ?_
            refine aw_eqi (nI (qn T + 1)) (by rw [hf9.1 _ _ (by omega)]; (repeat (first | rw [sI_ne (by omega)] | rw [sD_1])); exact sI_hit _ _ _ _) ?_
            refine aw_iret d_QU_append_109 rfl (by decide) (by decide) ?_
            refine hQ _ ⟨by rw [hf9.1 _ _ (by omega)]; (repeat (first | rw [sI_ne (by omega)] | rw [sD_1])); exact sI_hit _ _ _ _, fun t ht => by rw [hf9.1 _ _ (by omega)]; (repeat (first | rw [sI_ne (by omega)] | rw [sD_1])); exact a18 t ht, fun t ht => by rw [hf9.1 _ _ (by omega)]; (repeat (first | rw [sI_ne (by omega)] | rw [sD_1])); exact a19 t ht, fun t ht => by rw [hf9.2]; simp only [sI_2]; exact a20 t ht, by rw [addQ_n]; rw [hf9.1 _ _ (by omega)]; (repeat (first | rw [sI_ne (by omega)] | rw [sD_1])); exact sI_hit _ _ _ _, by rw [addQ_n]; rw [show tw (addQ T k a w) (qn T + 1) = tw T (qn T) by simp only [tw]; rw [if_neg (by rw [addQ_k']; omega), addQ_tw _ (Nat.le_refl _)]; omega]; rw [hf9.1 _ _ (by omega)]; (repeat (first | rw [sI_ne (by omega)] | rw [sD_1])); first | exact sI_hit _ _ _ _ | exact qc.2.2.2.2.2.1, fun _ t ht => he9 t ht⟩ (fun b i hb => ⟨?_, ?_, ?_⟩)
            · rw [hf9.1 _ _ (by omega)]; (repeat (first | rw [sI_ne (by omega)] | rw [sD_1]))
            · rw [hf9.2]; simp only [sI_2]; rw [sD_ne (by omega)]; rfl
            · rw [hf9.2]; rfl
      · skip
        refine aw_aload_n d_QU_append_84 rfl 1 rfl ?_
        refine aw_dup d_QU_append_85 rfl ?_
        refine aw_get (ic := 17) (ci := 2) (k := 6) d_QU_append_86 rfl rfl (by decide) rfl mw_98 rfl ?_
        refine aw_eqi (nI (tw T (qn T))) (by (repeat (first | rw [sI_ne (by omega)] | rw [sD_1])); exact qc.2.2.2.2.2.1) ?_
        refine aw_iconst (v := nI 1) d_QU_append_89 (by decide) ?_
        refine aw_isubN d_QU_append_90 (by omega) ?_
        refine aw_putI (ic := 17) (ci := 2) (k := 6) d_QU_append_91 rfl rfl (by decide) rfl rfl rfl mw_98 ?_
        refine aw_aload_n d_QU_append_94 rfl 1 rfl ?_
        refine aw_callV (K' := k_QU_isWhole) (As := []) (rest := []) (b := 17) d_QU_append_95 rfl rfl rfl cs_QU_43 rfl (Nat.le_of_ble_eq_true rfl) (Nat.le_of_ble_eq_true rfl) (by decide) (by decide) (d' := 0) (w' := 0) (by decide) (by decide) ?_
        show AW _ _ _ _ _ _ _ [(0, .ref (17))] _ _ _ _ _
        refine aw_aload_n d_QU_isWhole_0 rfl 0 rfl ?_
        refine aw_get (ic := 17) (ci := 2) (k := 5) d_QU_isWhole_1 rfl rfl (by decide) rfl mw_97 rfl ?_
        refine aw_eqi (nI (op (addQ T k a w) (qn T + 1))) (by (repeat (first | rw [sI_ne (by omega)] | rw [sD_1])); exact sI_hit _ _ _ _) ?_
        refine aw_if_neN (tgt := 11) d_QU_isWhole_4 (by decide) (by omega) (fun c7 => ?_) (fun c7 => ?_)
        · skip
          refine aw_iconst (v := nI 0) d_QU_isWhole_11 (by decide) ?_
          refine aw_zret (Or.inl rfl) d_QU_isWhole_12 rfl (by decide) (by decide) (ab_go1 ?_)
          refine aw_if_eqN (tgt := 105) d_QU_append_98 (by decide) (by omega) (fun c8 => ?_) (fun c8 => ?_)
          · skip
            refine aw_aload_n d_QU_append_105 rfl 1 rfl ?_
            refine aw_get (ic := 17) (ci := 2) (k := 4) d_QU_append_106 rfl rfl (by decide) rfl mw_96 rfl ?_
            refine aw_eqi (nI (qn T + 1)) (by (repeat (first | rw [sI_ne (by omega)] | rw [sD_1])); exact sI_hit _ _ _ _) ?_
            refine aw_iret d_QU_append_109 rfl (by decide) (by decide) ?_
            refine hQ _ ⟨by (repeat (first | rw [sI_ne (by omega)] | rw [sD_1])); exact sI_hit _ _ _ _, fun t ht => by (repeat (first | rw [sI_ne (by omega)] | rw [sD_1])); exact a18 t ht, fun t ht => by (repeat (first | rw [sI_ne (by omega)] | rw [sD_1])); exact a19 t ht, fun t ht => by simp only [sI_2]; exact a20 t ht, by rw [addQ_n]; (repeat (first | rw [sI_ne (by omega)] | rw [sD_1])); exact sI_hit _ _ _ _, by rw [addQ_n]; rw [show tw (addQ T k a w) (qn T + 1) = tw T (qn T) - 1 by simp only [tw]; rw [if_neg (by rw [addQ_k']; omega), addQ_tw _ (Nat.le_refl _)]]; (repeat (first | rw [sI_ne (by omega)] | rw [sD_1])); first | exact sI_hit _ _ _ _ | exact qc.2.2.2.2.2.1, fun h => by rw [addQ_n] at h; omega⟩ (fun b i hb => ⟨?_, ?_, ?_⟩)
            · (repeat (first | rw [sI_ne (by omega)] | rw [sD_1]))
            · simp only [sI_2]; rw [sD_ne (by omega)]; rfl
            · rfl
          · skip
            exact absurd c8 (by decide)
        · skip
          refine aw_iconst (v := nI 1) d_QU_isWhole_7 (by decide) ?_
          refine aw_goto (tgt := 12) d_QU_isWhole_8 (by decide) ?_
          refine aw_zret (Or.inr rfl) d_QU_isWhole_12 rfl (by decide) (by decide) (ab_go1 ?_)
          refine aw_if_eqN (tgt := 105) d_QU_append_98 (by decide) (by omega) (fun c9 => ?_) (fun c9 => ?_)
          · skip
            exact absurd c9 (by decide)
          · skip
            refine aw_aload_n d_QU_append_101 rfl 1 rfl ?_
            refine aw_callV (K' := k_QU_markEnds) (As := []) (rest := []) (b := 17) d_QU_append_102 rfl rfl rfl cs_QU_47 rfl (Nat.le_of_ble_eq_true rfl) (Nat.le_of_ble_eq_true rfl) (by decide) (by decide) (d' := 1) (w' := 24) (by decide) (by decide) ?_
            show AW _ _ _ _ _ _ _ [(0, .ref (17))] _ _ _ _ _
            refine A_markEnds (T := addQ T k a w) (addQ_wf wq hn ho hg hk) ?_ (by rw [addQ_n]; omega) (fun M9 hf9 he9 => ?_)
            · exact ⟨by (repeat (first | rw [sI_ne (by omega)] | rw [sD_1])); exact sI_hit _ _ _ _, fun t ht => by (repeat (first | rw [sI_ne (by omega)] | rw [sD_1])); exact a18 t ht, fun t ht => by (repeat (first | rw [sI_ne (by omega)] | rw [sD_1])); exact a19 t ht, fun t ht => by simp only [sI_2]; exact a20 t ht⟩
            refine ab_go0 ?_
            refine aw_aload_n d_QU_append_105 rfl 1 rfl ?_
            refine aw_get (ic := 17) (ci := 2) (k := 4) d_QU_append_106 rfl rfl (by decide) rfl mw_96 rfl ?_
            refine aw_eqi (nI (qn T + 1)) (by rw [hf9.1 _ _ (by omega)]; (repeat (first | rw [sI_ne (by omega)] | rw [sD_1])); exact sI_hit _ _ _ _) ?_
            refine aw_iret d_QU_append_109 rfl (by decide) (by decide) ?_
            refine hQ _ ⟨by rw [hf9.1 _ _ (by omega)]; (repeat (first | rw [sI_ne (by omega)] | rw [sD_1])); exact sI_hit _ _ _ _, fun t ht => by rw [hf9.1 _ _ (by omega)]; (repeat (first | rw [sI_ne (by omega)] | rw [sD_1])); exact a18 t ht, fun t ht => by rw [hf9.1 _ _ (by omega)]; (repeat (first | rw [sI_ne (by omega)] | rw [sD_1])); exact a19 t ht, fun t ht => by rw [hf9.2]; simp only [sI_2]; exact a20 t ht, by rw [addQ_n]; rw [hf9.1 _ _ (by omega)]; (repeat (first | rw [sI_ne (by omega)] | rw [sD_1])); exact sI_hit _ _ _ _, by rw [addQ_n]; rw [show tw (addQ T k a w) (qn T + 1) = tw T (qn T) - 1 by simp only [tw]; rw [if_neg (by rw [addQ_k']; omega), addQ_tw _ (Nat.le_refl _)]]; rw [hf9.1 _ _ (by omega)]; (repeat (first | rw [sI_ne (by omega)] | rw [sD_1])); first | exact sI_hit _ _ _ _ | exact qc.2.2.2.2.2.1, fun _ t ht => he9 t ht⟩ (fun b i hb => ⟨?_, ?_, ?_⟩)
            · rw [hf9.1 _ _ (by omega)]; (repeat (first | rw [sI_ne (by omega)] | rw [sD_1]))
            · rw [hf9.2]; simp only [sI_2]; rw [sD_ne (by omega)]; rfl
            · rw [hf9.2]; rfl
    · skip
      exact absurd c2 (by decide)
  · skip
    refine aw_iload_n d_BF_isWindow_5 rfl 0 rfl ?_
    refine aw_iconst (v := nI 4) d_BF_isWindow_6 (by decide) ?_
    refine aw_icmp_gtN (tgt := 14) d_BF_isWindow_7 (by decide) (by omega) (by omega) (fun c10 => ?_) (fun c10 => ?_)
    · skip
      refine aw_iconst (v := nI 0) d_BF_isWindow_14 (by decide) ?_
      refine aw_zret (Or.inl rfl) d_BF_isWindow_15 rfl (by decide) (by decide) (ab_go1 ?_)
      refine aw_if_eqN (tgt := 77) d_QU_append_61 (by decide) (by omega) (fun c11 => ?_) (fun c11 => ?_)
      · skip
        refine aw_aload_n d_QU_append_77 rfl 1 rfl ?_
        refine aw_get (ic := 17) (ci := 2) (k := 6) d_QU_append_78 rfl rfl (by decide) rfl mw_98 rfl ?_
        refine aw_eqi (nI (tw T (qn T))) (by (repeat (first | rw [sI_ne (by omega)] | rw [sD_1])); exact qc.2.2.2.2.2.1) ?_
        refine aw_if_leN (tgt := 94) d_QU_append_81 (by decide) (by omega) (fun c12 => ?_) (fun c12 => ?_)
        · skip
          refine aw_aload_n d_QU_append_94 rfl 1 rfl ?_
          refine aw_callV (K' := k_QU_isWhole) (As := []) (rest := []) (b := 17) d_QU_append_95 rfl rfl rfl cs_QU_43 rfl (Nat.le_of_ble_eq_true rfl) (Nat.le_of_ble_eq_true rfl) (by decide) (by decide) (d' := 0) (w' := 0) (by decide) (by decide) ?_
          show AW _ _ _ _ _ _ _ [(0, .ref (17))] _ _ _ _ _
          refine aw_aload_n d_QU_isWhole_0 rfl 0 rfl ?_
          refine aw_get (ic := 17) (ci := 2) (k := 5) d_QU_isWhole_1 rfl rfl (by decide) rfl mw_97 rfl ?_
          refine aw_eqi (nI (op (addQ T k a w) (qn T + 1))) (by (repeat (first | rw [sI_ne (by omega)] | rw [sD_1])); exact sI_hit _ _ _ _) ?_
          refine aw_if_neN (tgt := 11) d_QU_isWhole_4 (by decide) (by omega) (fun c13 => ?_) (fun c13 => ?_)
          · skip
            refine aw_iconst (v := nI 0) d_QU_isWhole_11 (by decide) ?_
            refine aw_zret (Or.inl rfl) d_QU_isWhole_12 rfl (by decide) (by decide) (ab_go1 ?_)
            refine aw_if_eqN (tgt := 105) d_QU_append_98 (by decide) (by omega) (fun c14 => ?_) (fun c14 => ?_)
            · skip
              refine aw_aload_n d_QU_append_105 rfl 1 rfl ?_
              refine aw_get (ic := 17) (ci := 2) (k := 4) d_QU_append_106 rfl rfl (by decide) rfl mw_96 rfl ?_
              refine aw_eqi (nI (qn T + 1)) (by (repeat (first | rw [sI_ne (by omega)] | rw [sD_1])); exact sI_hit _ _ _ _) ?_
              refine aw_iret d_QU_append_109 rfl (by decide) (by decide) ?_
              refine hQ _ ⟨by (repeat (first | rw [sI_ne (by omega)] | rw [sD_1])); exact sI_hit _ _ _ _, fun t ht => by (repeat (first | rw [sI_ne (by omega)] | rw [sD_1])); exact a18 t ht, fun t ht => by (repeat (first | rw [sI_ne (by omega)] | rw [sD_1])); exact a19 t ht, fun t ht => by simp only [sI_2]; exact a20 t ht, by rw [addQ_n]; (repeat (first | rw [sI_ne (by omega)] | rw [sD_1])); exact sI_hit _ _ _ _, by rw [addQ_n]; rw [show tw (addQ T k a w) (qn T + 1) = tw T (qn T) by simp only [tw]; rw [if_neg (by rw [addQ_k']; omega), addQ_tw _ (Nat.le_refl _)]; omega]; (repeat (first | rw [sI_ne (by omega)] | rw [sD_1])); first | exact sI_hit _ _ _ _ | exact qc.2.2.2.2.2.1, fun h => by rw [addQ_n] at h; omega⟩ (fun b i hb => ⟨?_, ?_, ?_⟩)
              · (repeat (first | rw [sI_ne (by omega)] | rw [sD_1]))
              · simp only [sI_2]; rw [sD_ne (by omega)]; rfl
              · rfl
            · skip
              exact absurd c14 (by decide)
          · skip
            refine aw_iconst (v := nI 1) d_QU_isWhole_7 (by decide) ?_
            refine aw_goto (tgt := 12) d_QU_isWhole_8 (by decide) ?_
            refine aw_zret (Or.inr rfl) d_QU_isWhole_12 rfl (by decide) (by decide) (ab_go1 ?_)
            refine aw_if_eqN (tgt := 105) d_QU_append_98 (by decide) (by omega) (fun c15 => ?_) (fun c15 => ?_)
            · skip
              exact absurd c15 (by decide)
            · skip
              refine aw_aload_n d_QU_append_101 rfl 1 rfl ?_
              refine aw_callV (K' := k_QU_markEnds) (As := []) (rest := []) (b := 17) d_QU_append_102 rfl rfl rfl cs_QU_47 rfl (Nat.le_of_ble_eq_true rfl) (Nat.le_of_ble_eq_true rfl) (by decide) (by decide) (d' := 1) (w' := 24) (by decide) (by decide) ?_
              show AW _ _ _ _ _ _ _ [(0, .ref (17))] _ _ _ _ _
              refine A_markEnds (T := addQ T k a w) (addQ_wf wq hn ho hg hk) ?_ (by rw [addQ_n]; omega) (fun M9 hf9 he9 => ?_)
              · exact ⟨by (repeat (first | rw [sI_ne (by omega)] | rw [sD_1])); exact sI_hit _ _ _ _, fun t ht => by (repeat (first | rw [sI_ne (by omega)] | rw [sD_1])); exact a18 t ht, fun t ht => by (repeat (first | rw [sI_ne (by omega)] | rw [sD_1])); exact a19 t ht, fun t ht => by simp only [sI_2]; exact a20 t ht⟩
              refine ab_go0 ?_
              refine aw_aload_n d_QU_append_105 rfl 1 rfl ?_
              refine aw_get (ic := 17) (ci := 2) (k := 4) d_QU_append_106 rfl rfl (by decide) rfl mw_96 rfl ?_
              refine aw_eqi (nI (qn T + 1)) (by rw [hf9.1 _ _ (by omega)]; (repeat (first | rw [sI_ne (by omega)] | rw [sD_1])); exact sI_hit _ _ _ _) ?_
              refine aw_iret d_QU_append_109 rfl (by decide) (by decide) ?_
              refine hQ _ ⟨by rw [hf9.1 _ _ (by omega)]; (repeat (first | rw [sI_ne (by omega)] | rw [sD_1])); exact sI_hit _ _ _ _, fun t ht => by rw [hf9.1 _ _ (by omega)]; (repeat (first | rw [sI_ne (by omega)] | rw [sD_1])); exact a18 t ht, fun t ht => by rw [hf9.1 _ _ (by omega)]; (repeat (first | rw [sI_ne (by omega)] | rw [sD_1])); exact a19 t ht, fun t ht => by rw [hf9.2]; simp only [sI_2]; exact a20 t ht, by rw [addQ_n]; rw [hf9.1 _ _ (by omega)]; (repeat (first | rw [sI_ne (by omega)] | rw [sD_1])); exact sI_hit _ _ _ _, by rw [addQ_n]; rw [show tw (addQ T k a w) (qn T + 1) = tw T (qn T) by simp only [tw]; rw [if_neg (by rw [addQ_k']; omega), addQ_tw _ (Nat.le_refl _)]; omega]; rw [hf9.1 _ _ (by omega)]; (repeat (first | rw [sI_ne (by omega)] | rw [sD_1])); first | exact sI_hit _ _ _ _ | exact qc.2.2.2.2.2.1, fun _ t ht => he9 t ht⟩ (fun b i hb => ⟨?_, ?_, ?_⟩)
              · rw [hf9.1 _ _ (by omega)]; (repeat (first | rw [sI_ne (by omega)] | rw [sD_1]))
              · rw [hf9.2]; simp only [sI_2]; rw [sD_ne (by omega)]; rfl
              · rw [hf9.2]; rfl
        · skip
          exfalso; omega
      · skip
        exact absurd c11 (by decide)
    · skip
      refine aw_iconst (v := nI 1) d_BF_isWindow_10 (by decide) ?_
      refine aw_goto (tgt := 15) d_BF_isWindow_11 (by decide) ?_
      refine aw_zret (Or.inr rfl) d_BF_isWindow_15 rfl (by decide) (by decide) (ab_go1 ?_)
      refine aw_if_eqN (tgt := 77) d_QU_append_61 (by decide) (by omega) (fun c16 => ?_) (fun c16 => ?_)
      · skip
        exact absurd c16 (by decide)
      · skip
        refine aw_aload_n d_QU_append_64 rfl 1 rfl ?_
        refine aw_aload_n d_QU_append_65 rfl 1 rfl ?_
        refine aw_iload d_QU_append_66 0 rfl ?_
        refine aw_callV (K' := k_QU_partsOf) (As := [.int (nI (qn T))]) (rest := [.ref (17)]) (b := 17) d_QU_append_68 rfl rfl rfl cs_QU_35 rfl (Nat.le_of_ble_eq_true rfl) (Nat.le_of_ble_eq_true rfl) (by decide) (by decide) (d' := 0) (w' := 0) (by decide) (by decide) ?_
        show AW _ _ _ _ _ _ _ [(0, .ref (17)), (1, .int (nI (qn T)))] _ _ _ _ _
        refine A_parts1 (T := addQ T k a w) (addQ_g' hg) hn (by rw [addQ_k']; (repeat (first | rw [sI_ne (by omega)] | rw [sD_1])); exact sI_hit _ _ _ _) (by rw [addQ_a']; (repeat (first | rw [sI_ne (by omega)] | rw [sD_1])); exact sI_hit _ _ _ _) (by rw [addQ_w']; simp only [sI_2]; exact sD_hit _ _ _ _) ?_
        refine ab_go1 ?_
        refine aw_putI (ic := 17) (ci := 2) (k := 6) d_QU_append_71 rfl rfl (by decide) rfl rfl rfl mw_98 ?_
        refine aw_goto (tgt := 94) d_QU_append_74 (by decide) ?_
        refine aw_aload_n d_QU_append_94 rfl 1 rfl ?_
        refine aw_callV (K' := k_QU_isWhole) (As := []) (rest := []) (b := 17) d_QU_append_95 rfl rfl rfl cs_QU_43 rfl (Nat.le_of_ble_eq_true rfl) (Nat.le_of_ble_eq_true rfl) (by decide) (by decide) (d' := 0) (w' := 0) (by decide) (by decide) ?_
        show AW _ _ _ _ _ _ _ [(0, .ref (17))] _ _ _ _ _
        refine aw_aload_n d_QU_isWhole_0 rfl 0 rfl ?_
        refine aw_get (ic := 17) (ci := 2) (k := 5) d_QU_isWhole_1 rfl rfl (by decide) rfl mw_97 rfl ?_
        refine aw_eqi (nI (op (addQ T k a w) (qn T + 1))) (by (repeat (first | rw [sI_ne (by omega)] | rw [sD_1])); exact sI_hit _ _ _ _) ?_
        refine aw_if_neN (tgt := 11) d_QU_isWhole_4 (by decide) (by omega) (fun c17 => ?_) (fun c17 => ?_)
        · skip
          refine aw_iconst (v := nI 0) d_QU_isWhole_11 (by decide) ?_
          refine aw_zret (Or.inl rfl) d_QU_isWhole_12 rfl (by decide) (by decide) (ab_go1 ?_)
          refine aw_if_eqN (tgt := 105) d_QU_append_98 (by decide) (by omega) (fun c18 => ?_) (fun c18 => ?_)
          · skip
            refine aw_aload_n d_QU_append_105 rfl 1 rfl ?_
            refine aw_get (ic := 17) (ci := 2) (k := 4) d_QU_append_106 rfl rfl (by decide) rfl mw_96 rfl ?_
            refine aw_eqi (nI (qn T + 1)) (by (repeat (first | rw [sI_ne (by omega)] | rw [sD_1])); exact sI_hit _ _ _ _) ?_
            refine aw_iret d_QU_append_109 rfl (by decide) (by decide) ?_
            refine hQ _ ⟨by (repeat (first | rw [sI_ne (by omega)] | rw [sD_1])); exact sI_hit _ _ _ _, fun t ht => by (repeat (first | rw [sI_ne (by omega)] | rw [sD_1])); exact a18 t ht, fun t ht => by (repeat (first | rw [sI_ne (by omega)] | rw [sD_1])); exact a19 t ht, fun t ht => by simp only [sI_2]; exact a20 t ht, by rw [addQ_n]; (repeat (first | rw [sI_ne (by omega)] | rw [sD_1])); exact sI_hit _ _ _ _, by rw [addQ_n]; rw [show tw (addQ T k a w) (qn T + 1) = prt (addQ T k a w) (qn T) from tw_win (by rw [addQ_k']; omega)]; (repeat (first | rw [sI_ne (by omega)] | rw [sD_1])); first | exact sI_hit _ _ _ _ | exact qc.2.2.2.2.2.1, fun h => by rw [addQ_n] at h; omega⟩ (fun b i hb => ⟨?_, ?_, ?_⟩)
            · (repeat (first | rw [sI_ne (by omega)] | rw [sD_1]))
            · simp only [sI_2]; rw [sD_ne (by omega)]; rfl
            · rfl
          · skip
            exact absurd c18 (by decide)
        · skip
          refine aw_iconst (v := nI 1) d_QU_isWhole_7 (by decide) ?_
          refine aw_goto (tgt := 12) d_QU_isWhole_8 (by decide) ?_
          refine aw_zret (Or.inr rfl) d_QU_isWhole_12 rfl (by decide) (by decide) (ab_go1 ?_)
          refine aw_if_eqN (tgt := 105) d_QU_append_98 (by decide) (by omega) (fun c19 => ?_) (fun c19 => ?_)
          · skip
            exact absurd c19 (by decide)
          · skip
            refine aw_aload_n d_QU_append_101 rfl 1 rfl ?_
            refine aw_callV (K' := k_QU_markEnds) (As := []) (rest := []) (b := 17) d_QU_append_102 rfl rfl rfl cs_QU_47 rfl (Nat.le_of_ble_eq_true rfl) (Nat.le_of_ble_eq_true rfl) (by decide) (by decide) (d' := 1) (w' := 24) (by decide) (by decide) ?_
            show AW _ _ _ _ _ _ _ [(0, .ref (17))] _ _ _ _ _
            refine A_markEnds (T := addQ T k a w) (addQ_wf wq hn ho hg hk) ?_ (by rw [addQ_n]; omega) (fun M9 hf9 he9 => ?_)
            · exact ⟨by (repeat (first | rw [sI_ne (by omega)] | rw [sD_1])); exact sI_hit _ _ _ _, fun t ht => by (repeat (first | rw [sI_ne (by omega)] | rw [sD_1])); exact a18 t ht, fun t ht => by (repeat (first | rw [sI_ne (by omega)] | rw [sD_1])); exact a19 t ht, fun t ht => by simp only [sI_2]; exact a20 t ht⟩
            refine ab_go0 ?_
            refine aw_aload_n d_QU_append_105 rfl 1 rfl ?_
            refine aw_get (ic := 17) (ci := 2) (k := 4) d_QU_append_106 rfl rfl (by decide) rfl mw_96 rfl ?_
            refine aw_eqi (nI (qn T + 1)) (by rw [hf9.1 _ _ (by omega)]; (repeat (first | rw [sI_ne (by omega)] | rw [sD_1])); exact sI_hit _ _ _ _) ?_
            refine aw_iret d_QU_append_109 rfl (by decide) (by decide) ?_
            refine hQ _ ⟨by rw [hf9.1 _ _ (by omega)]; (repeat (first | rw [sI_ne (by omega)] | rw [sD_1])); exact sI_hit _ _ _ _, fun t ht => by rw [hf9.1 _ _ (by omega)]; (repeat (first | rw [sI_ne (by omega)] | rw [sD_1])); exact a18 t ht, fun t ht => by rw [hf9.1 _ _ (by omega)]; (repeat (first | rw [sI_ne (by omega)] | rw [sD_1])); exact a19 t ht, fun t ht => by rw [hf9.2]; simp only [sI_2]; exact a20 t ht, by rw [addQ_n]; rw [hf9.1 _ _ (by omega)]; (repeat (first | rw [sI_ne (by omega)] | rw [sD_1])); exact sI_hit _ _ _ _, by rw [addQ_n]; rw [show tw (addQ T k a w) (qn T + 1) = prt (addQ T k a w) (qn T) from tw_win (by rw [addQ_k']; omega)]; rw [hf9.1 _ _ (by omega)]; (repeat (first | rw [sI_ne (by omega)] | rw [sD_1])); first | exact sI_hit _ _ _ _ | exact qc.2.2.2.2.2.1, fun _ t ht => he9 t ht⟩ (fun b i hb => ⟨?_, ?_, ?_⟩)
            · rw [hf9.1 _ _ (by omega)]; (repeat (first | rw [sI_ne (by omega)] | rw [sD_1]))
            · rw [hf9.2]; simp only [sI_2]; rw [sD_ne (by omega)]; rfl
            · rw [hf9.2]; rfl
