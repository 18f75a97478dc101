/-! the law, case by case (rows laid by gen/m20.py) -/
theorem sJ_thr (c : Nat) (M : ab_M) (x : Int64) : (thrM c (ab_sJ M 69 0 x)).2.2 69 0 = x := sJ_hit M 69 0 x
set_option maxRecDepth 8000 in
theorem LC_belief {l : Launch} {b L : Nat} {xs : Nat → Int32} {M : ab_M} {Q : ab_O → ab_M → Prop} {n1 n2 : Nat} (hl : l.stackTraces = false) {D : Dg} {T : Qg} {S : Sg} {R : Rg} (hI : INV D T S R M) {i : Nat} (hi : i + 4 ≤ L) (hL : L ≤ 2048) (hn1 : n1 + 1 ≤ 601024) (hn2 : n2 + 6 ≤ 7293034) (hK : ∀ (D : Dg) (T : Qg) (S : Sg) (R : Rg) (M' : ab_M), INV D T S R M' → AW sys l (ab_Zs9 sys 71 b L xs) k_LA_law 9 207 957 [(5, .int (nI (i))), (0, .ref (71)), (1, .ref (0)), (2, .ref (57)), (3, .ref (69)), (4, .ref (70))] [] M' (n1 + 1) (n2 + 6) Q) : AW sys l (ab_Zs9 sys 71 b L xs) k_LA_law 9 207 422 [(5, .int (nI (i))), (0, .ref (71)), (1, .ref (0)), (2, .ref (57)), (3, .ref (69)), (4, .ref (70))] [] M n1 n2 Q := by
  obtain ⟨⟨wd, wq, ws, wr⟩, ci, ri⟩ := id hI
  obtain ⟨dc, qc, sc, rc⟩ := id ci
  obtain ⟨dr, qr, sr, rr⟩ := id ri
  by_cases hb : (xs (i + 1)).toInt < 0 ∨ (dn D : Int) ≤ (xs (i + 1)).toInt
  · skip
    refine aw_aload_n d_LA_law_422 rfl 2 rfl ?_
    refine aw_aload_n d_LA_law_423 rfl 1 rfl ?_
    refine aw_iload d_LA_law_424 0 rfl ?_
    refine aw_iconst (v := nI 1) d_LA_law_426 (by decide) ?_
    refine aw_iaddN d_LA_law_427 ?_
    refine aw_sld d_LA_law_428 (pk_in (i + 1) L (by omega)) ?_
    refine aw_eqi (xs (i + 1)) (by rw [nI_clamp (by omega)]) ?_
    refine aw_aload d_LA_law_429 5 rfl ?_
    refine aw_callSW (K' := k_LA_belief) (As := [.ref (0), .int (xs (i + 1)), .ref (70)]) (rest := []) d_LA_law_431 rfl (by decide) cs_LA_96 rfl (Nat.le_of_ble_eq_true rfl) (Nat.le_of_ble_eq_true rfl) (by show n1 + 1 ≤ 601024; omega) (by show n2 + 6 ≤ 7293034; omega) (d' := 8) (w' := 183) (by decide) (by decide) ?_
    show AW _ _ _ _ _ _ _ [(0, .ref (0)), (1, .int (xs (i + 1))), (2, .ref (70))] _ _ _ _ _
    refine aw_aload_n d_LA_belief_0 rfl 2 rfl ?_
    refine aw_iconst (v := nI 0) d_LA_belief_1 (by decide) ?_
    refine aw_aload_n d_LA_belief_2 rfl 0 rfl ?_
    refine aw_iload_n d_LA_belief_3 rfl 1 rfl ?_
    refine aw_callVX (K' := k_BF_belief) (As := [.int (xs (i + 1))]) (rest := [.int (nI (0)), .ref (70)]) (b := 0) d_LA_belief_4 rfl rfl rfl cs_LA_30 rfl (Nat.le_of_ble_eq_true rfl) (Nat.le_of_ble_eq_true rfl) (by decide) (by decide) (d' := 7) (w' := 162) (by decide) (by decide) ?_
    show AW _ _ _ _ _ _ _ [(0, .ref (0)), (1, .int (xs (i + 1)))] _ _ _ _ _
    refine C_belief_bad hl wd dc wq qc ws sc hb ?_
    refine ab_afx1 (k := 3) ct_belief_IOO (by decide) d_LA_belief_11 rfl ?_
    show AW _ _ _ _ _ _ 12 [(0, .ref (0)), (1, .int (xs (i + 1))), (2, .ref (70))] _ _ _ _ _
    refine aw_iconst (v := nI 1) d_LA_belief_12 (by decide) ?_
    refine aw_iret d_LA_belief_13 rfl (by decide) (by decide) (ab_go1 ?_)
    refine aw_istore (lv' := [(6, .int (nI (1))), (5, .int (nI (i))), (0, .ref (71)), (1, .ref (0)), (2, .ref (57)), (3, .ref (69)), (4, .ref (70))]) d_LA_law_434 (by decide) rfl ?_
    refine aw_aload_n d_LA_law_436 rfl 4 rfl ?_
    refine aw_aload_n d_LA_law_437 rfl 2 rfl ?_
    refine aw_iload d_LA_law_438 1 rfl ?_
    refine aw_iconst (v := nI 1) d_LA_law_440 (by decide) ?_
    refine aw_iaddN d_LA_law_441 ?_
    refine aw_sld d_LA_law_442 (pk_in (i + 1) L (by omega)) ?_
    refine aw_eqi (xs (i + 1)) (by rw [nI_clamp (by omega)]) ?_
    refine aw_callV (K' := k_MO_belief) (As := [.int (xs (i + 1))]) (rest := []) (b := 57) d_LA_law_443 rfl rfl rfl cs_LA_99 rfl (Nat.le_of_ble_eq_true rfl) (Nat.le_of_ble_eq_true rfl) (by show n1 + 1 + 0 ≤ 601024; omega) (by show n2 + 6 + 0 ≤ 7293034; omega) (d' := 5) (w' := 129) (by decide) (by decide) ?_
    show AW _ _ _ _ _ _ _ [(0, .ref (57)), (1, .int (xs (i + 1)))] _ _ _ _ _
    refine R_belief_bad wd dr wq qr ws sr rr hb ?_
    refine ab_go1 ?_
    refine aw_dstore (lv' := [(7, .double (FP.dconst0)), (6, .int (nI (1))), (5, .int (nI (i))), (0, .ref (71)), (1, .ref (0)), (2, .ref (57)), (3, .ref (69)), (4, .ref (70))]) d_LA_law_446 (by decide) rfl ?_
    refine aw_aload_n d_LA_law_448 rfl 5 rfl ?_
    refine aw_callV (K' := k_MO_thrown) (As := []) (rest := []) (b := 57) d_LA_law_449 rfl rfl rfl cs_LA_71 rfl (Nat.le_of_ble_eq_true rfl) (Nat.le_of_ble_eq_true rfl) (by show n1 + 1 + 0 ≤ 601024; omega) (by show n2 + 6 + 0 ≤ 7293034; omega) (d' := 0) (w' := 0) (by decide) (by decide) ?_
    show AW _ _ _ _ _ _ _ [(0, .ref (57))] _ _ _ _ _
    refine aw_aload_n d_MO_thrown_0 rfl 0 rfl ?_
    refine aw_get (ic := 57) (ci := 6) (k := 0) d_MO_thrown_1 rfl rfl (by decide) rfl mw_775 rfl ?_
    refine aw_eqi (nI (1)) (sI_hit _ _ _ _) ?_
    refine aw_iret d_MO_thrown_4 rfl (by decide) (by decide) (ab_go1 ?_)
    refine aw_iload d_LA_law_452 1 rfl ?_
    refine aw_icmp_eqN (tgt := 459) d_LA_law_454 (by decide) (by omega) (by omega) (fun c1 => ?_) (fun c1 => ?_)
    · skip
      refine aw_iload d_LA_law_459 1 rfl ?_
      refine aw_if_neN (tgt := 496) d_LA_law_461 (by decide) (by omega) (fun c2 => ?_) (fun c2 => ?_)
      · skip
        refine aw_goto (tgt := 957) d_LA_law_496 (by decide) ?_
        refine aw_pick [2, 3, 4, 5, 6, 7] rfl ?_
        exact hK D T S R _ ⟨hI.1, CI_thr ci, RI_thr ri⟩
      · skip
        exact absurd c2 (by decide)
    · skip
      exfalso; omega
  · skip
    obtain ⟨d, hd, hx⟩ : ∃ d, d < dn D ∧ xs (i + 1) = nI d := ⟨(xs (i + 1)).toInt.toNat, by omega, i32_nat (by omega)⟩
    refine aw_aload_n d_LA_law_422 rfl 2 rfl ?_
    refine aw_aload_n d_LA_law_423 rfl 1 rfl ?_
    refine aw_iload d_LA_law_424 0 rfl ?_
    refine aw_iconst (v := nI 1) d_LA_law_426 (by decide) ?_
    refine aw_iaddN d_LA_law_427 ?_
    refine aw_sld d_LA_law_428 (pk_in (i + 1) L (by omega)) ?_
    refine aw_eqi (nI (d)) (by rw [nI_clamp (by omega), hx]) ?_
    refine aw_aload d_LA_law_429 5 rfl ?_
    refine aw_callSW (K' := k_LA_belief) (As := [.ref (0), .int (nI (d)), .ref (70)]) (rest := []) d_LA_law_431 rfl (by decide) cs_LA_96 rfl (Nat.le_of_ble_eq_true rfl) (Nat.le_of_ble_eq_true rfl) (by show n1 + 1 ≤ 601024; omega) (by show n2 + 6 ≤ 7293034; omega) (d' := 8) (w' := 183) (by decide) (by decide) ?_
    show AW _ _ _ _ _ _ _ [(0, .ref (0)), (1, .int (nI (d))), (2, .ref (70))] _ _ _ _ _
    refine aw_aload_n d_LA_belief_0 rfl 2 rfl ?_
    refine aw_iconst (v := nI 0) d_LA_belief_1 (by decide) ?_
    refine aw_aload_n d_LA_belief_2 rfl 0 rfl ?_
    refine aw_iload_n d_LA_belief_3 rfl 1 rfl ?_
    refine aw_callVX (K' := k_BF_belief) (As := [.int (nI (d))]) (rest := [.int (nI (0)), .ref (70)]) (b := 0) d_LA_belief_4 rfl rfl rfl cs_LA_30 rfl (Nat.le_of_ble_eq_true rfl) (Nat.le_of_ble_eq_true rfl) (by decide) (by decide) (d' := 7) (w' := 162) (by decide) (by decide) ?_
    show AW _ _ _ _ _ _ _ [(0, .ref (0)), (1, .int (nI (d)))] _ _ _ _ _
    refine C_belief hl wd dc wq qc ws sc hd (fun g1 => ?_) (fun g1 g2 => ?_) (fun g1 g2 g3 M1 f1 => ?_) (fun g1 g2 g3 M1 f1 => ?_)
    · skip
      refine ab_afx1 (k := 3) ct_belief_IOO (by decide) d_LA_belief_11 rfl ?_
      show AW _ _ _ _ _ _ 12 [(0, .ref (0)), (1, .int (nI (d))), (2, .ref (70))] _ _ _ _ _
      refine aw_iconst (v := nI 1) d_LA_belief_12 (by decide) ?_
      refine aw_iret d_LA_belief_13 rfl (by decide) (by decide) (ab_go1 ?_)
      refine aw_istore (lv' := [(6, .int (nI (1))), (5, .int (nI (i))), (0, .ref (71)), (1, .ref (0)), (2, .ref (57)), (3, .ref (69)), (4, .ref (70))]) d_LA_law_434 (by decide) rfl ?_
      refine aw_aload_n d_LA_law_436 rfl 4 rfl ?_
      refine aw_aload_n d_LA_law_437 rfl 2 rfl ?_
      refine aw_iload d_LA_law_438 1 rfl ?_
      refine aw_iconst (v := nI 1) d_LA_law_440 (by decide) ?_
      refine aw_iaddN d_LA_law_441 ?_
      refine aw_sld d_LA_law_442 (pk_in (i + 1) L (by omega)) ?_
      refine aw_eqi (nI (d)) (by rw [nI_clamp (by omega), hx]) ?_
      refine aw_callV (K' := k_MO_belief) (As := [.int (nI (d))]) (rest := []) (b := 57) d_LA_law_443 rfl rfl rfl cs_LA_99 rfl (Nat.le_of_ble_eq_true rfl) (Nat.le_of_ble_eq_true rfl) (by show n1 + 1 + 0 ≤ 601024; omega) (by show n2 + 6 + 0 ≤ 7293034; omega) (d' := 5) (w' := 129) (by decide) (by decide) ?_
      show AW _ _ _ _ _ _ _ [(0, .ref (57)), (1, .int (nI (d)))] _ _ _ _ _
      refine R_belief0 wd dr wq qr ws sr rr hd (fun _ => ?_) (fun h => absurd h (by omega)) (fun h => absurd h (by omega)) (fun h => absurd h (by omega))
      refine ab_go1 ?_
      refine aw_dstore (lv' := [(7, .double (FP.dconst0)), (6, .int (nI (1))), (5, .int (nI (i))), (0, .ref (71)), (1, .ref (0)), (2, .ref (57)), (3, .ref (69)), (4, .ref (70))]) d_LA_law_446 (by decide) rfl ?_
      refine aw_aload_n d_LA_law_448 rfl 5 rfl ?_
      refine aw_callV (K' := k_MO_thrown) (As := []) (rest := []) (b := 57) d_LA_law_449 rfl rfl rfl cs_LA_71 rfl (Nat.le_of_ble_eq_true rfl) (Nat.le_of_ble_eq_true rfl) (by show n1 + 1 + 0 ≤ 601024; omega) (by show n2 + 6 + 0 ≤ 7293034; omega) (d' := 0) (w' := 0) (by decide) (by decide) ?_
      show AW _ _ _ _ _ _ _ [(0, .ref (57))] _ _ _ _ _
      refine aw_aload_n d_MO_thrown_0 rfl 0 rfl ?_
      refine aw_get (ic := 57) (ci := 6) (k := 0) d_MO_thrown_1 rfl rfl (by decide) rfl mw_775 rfl ?_
      refine aw_eqi (nI (1)) (sI_hit _ _ _ _) ?_
      refine aw_iret d_MO_thrown_4 rfl (by decide) (by decide) (ab_go1 ?_)
      refine aw_iload d_LA_law_452 1 rfl ?_
      refine aw_icmp_eqN (tgt := 459) d_LA_law_454 (by decide) (by omega) (by omega) (fun c1 => ?_) (fun c1 => ?_)
      · skip
        refine aw_iload d_LA_law_459 1 rfl ?_
        refine aw_if_neN (tgt := 496) d_LA_law_461 (by decide) (by omega) (fun c2 => ?_) (fun c2 => ?_)
        · skip
          refine aw_goto (tgt := 957) d_LA_law_496 (by decide) ?_
          refine aw_pick [2, 3, 4, 5, 6, 7] rfl ?_
          exact hK D T S R _ ⟨hI.1, CI_thr ci, RI_thr ri⟩
        · skip
          exact absurd c2 (by decide)
      · skip
        exfalso; omega
    · skip
      refine ab_afx1 (k := 3) ct_belief_ISE (by decide) d_LA_belief_14 rfl ?_
      show AW _ _ _ _ _ _ 15 [(0, .ref (0)), (1, .int (nI (d))), (2, .ref (70))] _ _ _ _ _
      refine aw_iconst (v := nI 2) d_LA_belief_15 (by decide) ?_
      refine aw_iret d_LA_belief_16 rfl (by decide) (by decide) (ab_go1 ?_)
      refine aw_istore (lv' := [(6, .int (nI (2))), (5, .int (nI (i))), (0, .ref (71)), (1, .ref (0)), (2, .ref (57)), (3, .ref (69)), (4, .ref (70))]) d_LA_law_434 (by decide) rfl ?_
      refine aw_aload_n d_LA_law_436 rfl 4 rfl ?_
      refine aw_aload_n d_LA_law_437 rfl 2 rfl ?_
      refine aw_iload d_LA_law_438 1 rfl ?_
      refine aw_iconst (v := nI 1) d_LA_law_440 (by decide) ?_
      refine aw_iaddN d_LA_law_441 ?_
      refine aw_sld d_LA_law_442 (pk_in (i + 1) L (by omega)) ?_
      refine aw_eqi (nI (d)) (by rw [nI_clamp (by omega), hx]) ?_
      refine aw_callV (K' := k_MO_belief) (As := [.int (nI (d))]) (rest := []) (b := 57) d_LA_law_443 rfl rfl rfl cs_LA_99 rfl (Nat.le_of_ble_eq_true rfl) (Nat.le_of_ble_eq_true rfl) (by show n1 + 1 + 0 ≤ 601024; omega) (by show n2 + 6 + 0 ≤ 7293034; omega) (d' := 5) (w' := 129) (by decide) (by decide) ?_
      show AW _ _ _ _ _ _ _ [(0, .ref (57)), (1, .int (nI (d)))] _ _ _ _ _
      refine R_belief0 wd dr wq qr ws sr rr hd (fun h => absurd h (by omega)) (fun _ _ => ?_) (fun _ h => absurd h g2) (fun _ h => absurd h g2)
      refine ab_go1 ?_
      refine aw_dstore (lv' := [(7, .double (FP.dconst0)), (6, .int (nI (2))), (5, .int (nI (i))), (0, .ref (71)), (1, .ref (0)), (2, .ref (57)), (3, .ref (69)), (4, .ref (70))]) d_LA_law_446 (by decide) rfl ?_
      refine aw_aload_n d_LA_law_448 rfl 5 rfl ?_
      refine aw_callV (K' := k_MO_thrown) (As := []) (rest := []) (b := 57) d_LA_law_449 rfl rfl rfl cs_LA_71 rfl (Nat.le_of_ble_eq_true rfl) (Nat.le_of_ble_eq_true rfl) (by show n1 + 1 + 0 ≤ 601024; omega) (by show n2 + 6 + 0 ≤ 7293034; omega) (d' := 0) (w' := 0) (by decide) (by decide) ?_
      show AW _ _ _ _ _ _ _ [(0, .ref (57))] _ _ _ _ _
      refine aw_aload_n d_MO_thrown_0 rfl 0 rfl ?_
      refine aw_get (ic := 57) (ci := 6) (k := 0) d_MO_thrown_1 rfl rfl (by decide) rfl mw_775 rfl ?_
      refine aw_eqi (nI (2)) (sI_hit _ _ _ _) ?_
      refine aw_iret d_MO_thrown_4 rfl (by decide) (by decide) (ab_go1 ?_)
      refine aw_iload d_LA_law_452 1 rfl ?_
      refine aw_icmp_eqN (tgt := 459) d_LA_law_454 (by decide) (by omega) (by omega) (fun c3 => ?_) (fun c3 => ?_)
      · skip
        refine aw_iload d_LA_law_459 1 rfl ?_
        refine aw_if_neN (tgt := 496) d_LA_law_461 (by decide) (by omega) (fun c4 => ?_) (fun c4 => ?_)
        · skip
          refine aw_goto (tgt := 957) d_LA_law_496 (by decide) ?_
          refine aw_pick [2, 3, 4, 5, 6, 7] rfl ?_
          exact hK D T S R _ ⟨hI.1, CI_thr ci, RI_thr ri⟩
        · skip
          exact absurd c4 (by decide)
      · skip
        exfalso; omega
    · skip
      refine ab_afx1 (k := 3) ct_belief_NSE (by decide) d_LA_belief_17 rfl ?_
      show AW _ _ _ _ _ _ 18 [(0, .ref (0)), (1, .int (nI (d))), (2, .ref (70))] _ _ _ _ _
      refine aw_iconst (v := nI 3) d_LA_belief_18 (by decide) ?_
      refine aw_iret d_LA_belief_19 rfl (by decide) (by decide) (ab_go1 ?_)
      refine aw_istore (lv' := [(6, .int (nI (3))), (5, .int (nI (i))), (0, .ref (71)), (1, .ref (0)), (2, .ref (57)), (3, .ref (69)), (4, .ref (70))]) d_LA_law_434 (by decide) rfl ?_
      refine aw_aload_n d_LA_law_436 rfl 4 rfl ?_
      refine aw_aload_n d_LA_law_437 rfl 2 rfl ?_
      refine aw_iload d_LA_law_438 1 rfl ?_
      refine aw_iconst (v := nI 1) d_LA_law_440 (by decide) ?_
      refine aw_iaddN d_LA_law_441 ?_
      refine aw_sld d_LA_law_442 (pk_in (i + 1) L (by omega)) ?_
      refine aw_eqi (nI (d)) (by rw [nI_clamp (by omega), hx]) ?_
      refine aw_callV (K' := k_MO_belief) (As := [.int (nI (d))]) (rest := []) (b := 57) d_LA_law_443 rfl rfl rfl cs_LA_99 rfl (Nat.le_of_ble_eq_true rfl) (Nat.le_of_ble_eq_true rfl) (by show n1 + 1 + 0 ≤ 601024; omega) (by show n2 + 6 + 0 ≤ 7293034; omega) (d' := 5) (w' := 129) (by decide) (by decide) ?_
      show AW _ _ _ _ _ _ _ [(0, .ref (57)), (1, .int (nI (d)))] _ _ _ _ _
      have c1 := belC_ok ci f1
      have r1 : RI D T S R M1 := RI_frR ri c1.2
      refine R_belief0 wd r1.1 wq r1.2.1 ws r1.2.2.1 r1.2.2.2 hd (fun h => absurd h (by omega)) (fun _ h => absurd g2 h) (fun _ _ _ M2 k2 rr2 t2 => ?_) (fun _ _ h => absurd (g3.symm.trans h) (by decide))
      refine ab_go1 ?_
      refine aw_dstore (lv' := [(7, .double (FP.dconst0)), (6, .int (nI (3))), (5, .int (nI (i))), (0, .ref (71)), (1, .ref (0)), (2, .ref (57)), (3, .ref (69)), (4, .ref (70))]) d_LA_law_446 (by decide) rfl ?_
      refine aw_aload_n d_LA_law_448 rfl 5 rfl ?_
      refine aw_callV (K' := k_MO_thrown) (As := []) (rest := []) (b := 57) d_LA_law_449 rfl rfl rfl cs_LA_71 rfl (Nat.le_of_ble_eq_true rfl) (Nat.le_of_ble_eq_true rfl) (by show n1 + 1 + 0 ≤ 601024; omega) (by show n2 + 6 + 0 ≤ 7293034; omega) (d' := 0) (w' := 0) (by decide) (by decide) ?_
      show AW _ _ _ _ _ _ _ [(0, .ref (57))] _ _ _ _ _
      refine aw_aload_n d_MO_thrown_0 rfl 0 rfl ?_
      refine aw_get (ic := 57) (ci := 6) (k := 0) d_MO_thrown_1 rfl rfl (by decide) rfl mw_775 rfl ?_
      refine aw_eqi (nI (3)) t2 ?_
      refine aw_iret d_MO_thrown_4 rfl (by decide) (by decide) (ab_go1 ?_)
      refine aw_iload d_LA_law_452 1 rfl ?_
      refine aw_icmp_eqN (tgt := 459) d_LA_law_454 (by decide) (by omega) (by omega) (fun c5 => ?_) (fun c5 => ?_)
      · skip
        refine aw_iload d_LA_law_459 1 rfl ?_
        refine aw_if_neN (tgt := 496) d_LA_law_461 (by decide) (by omega) (fun c6 => ?_) (fun c6 => ?_)
        · skip
          refine aw_goto (tgt := 957) d_LA_law_496 (by decide) ?_
          refine aw_pick [2, 3, 4, 5, 6, 7] rfl ?_
          exact hK D T S R M2 ⟨hI.1, CI_frC c1.1 k2.2.2.2, k2.1, k2.2.1, k2.2.2.1, rr2⟩
        · skip
          exact absurd c6 (by decide)
      · skip
        exfalso; omega
    · skip
      refine ab_af1 ?_
      refine aw_dastN d_LA_belief_7 rfl (by decide) (by omega) ?_
      refine aw_goto (tgt := 20) d_LA_belief_8 (by decide) ?_
      refine aw_iconst (v := nI 0) d_LA_belief_20 (by decide) ?_
      refine aw_iret d_LA_belief_21 rfl (by decide) (by decide) (ab_go1 ?_)
      refine aw_istore (lv' := [(6, .int (nI (0))), (5, .int (nI (i))), (0, .ref (71)), (1, .ref (0)), (2, .ref (57)), (3, .ref (69)), (4, .ref (70))]) d_LA_law_434 (by decide) rfl ?_
      refine aw_aload_n d_LA_law_436 rfl 4 rfl ?_
      refine aw_aload_n d_LA_law_437 rfl 2 rfl ?_
      refine aw_iload d_LA_law_438 1 rfl ?_
      refine aw_iconst (v := nI 1) d_LA_law_440 (by decide) ?_
      refine aw_iaddN d_LA_law_441 ?_
      refine aw_sld d_LA_law_442 (pk_in (i + 1) L (by omega)) ?_
      refine aw_eqi (nI (d)) (by rw [nI_clamp (by omega), hx]) ?_
      refine aw_callV (K' := k_MO_belief) (As := [.int (nI (d))]) (rest := []) (b := 57) d_LA_law_443 rfl rfl rfl cs_LA_99 rfl (Nat.le_of_ble_eq_true rfl) (Nat.le_of_ble_eq_true rfl) (by show n1 + 1 + 0 ≤ 601024; omega) (by show n2 + 6 + 0 ≤ 7293034; omega) (d' := 5) (w' := 129) (by decide) (by decide) ?_
      show AW _ _ _ _ _ _ _ [(0, .ref (57)), (1, .int (nI (d)))] _ _ _ _ _
      have c1 := belC_ok ci f1
      have r1 : RI D T S R (ab_sD M1 (70) (0) (bl S T D d (qn T) 0)) := RI_D (RI_frR ri c1.2)
      refine R_belief0 wd r1.1 wq r1.2.1 ws r1.2.2.1 r1.2.2.2 hd (fun h => absurd h (by omega)) (fun _ h => absurd g2 h) (fun _ _ h => absurd (g3.symm.trans h) (by decide)) (fun _ _ _ M2 k2 rr2 t2 => ?_)
      refine ab_go1 ?_
      refine aw_dstore (lv' := [(7, .double (bl S T D d (qn T) 0)), (6, .int (nI (0))), (5, .int (nI (i))), (0, .ref (71)), (1, .ref (0)), (2, .ref (57)), (3, .ref (69)), (4, .ref (70))]) d_LA_law_446 (by decide) rfl ?_
      refine aw_aload_n d_LA_law_448 rfl 5 rfl ?_
      refine aw_callV (K' := k_MO_thrown) (As := []) (rest := []) (b := 57) d_LA_law_449 rfl rfl rfl cs_LA_71 rfl (Nat.le_of_ble_eq_true rfl) (Nat.le_of_ble_eq_true rfl) (by show n1 + 1 + 0 ≤ 601024; omega) (by show n2 + 6 + 0 ≤ 7293034; omega) (d' := 0) (w' := 0) (by decide) (by decide) ?_
      show AW _ _ _ _ _ _ _ [(0, .ref (57))] _ _ _ _ _
      refine aw_aload_n d_MO_thrown_0 rfl 0 rfl ?_
      refine aw_get (ic := 57) (ci := 6) (k := 0) d_MO_thrown_1 rfl rfl (by decide) rfl mw_775 rfl ?_
      refine aw_eqi (nI (0)) t2 ?_
      refine aw_iret d_MO_thrown_4 rfl (by decide) (by decide) (ab_go1 ?_)
      refine aw_iload d_LA_law_452 1 rfl ?_
      refine aw_icmp_eqN (tgt := 459) d_LA_law_454 (by decide) (by omega) (by omega) (fun c7 => ?_) (fun c7 => ?_)
      · skip
        refine aw_iload d_LA_law_459 1 rfl ?_
        refine aw_if_neN (tgt := 496) d_LA_law_461 (by decide) (by omega) (fun c8 => ?_) (fun c8 => ?_)
        · skip
          exact absurd c8 (by decide)
        · skip
          refine aw_aload d_LA_law_464 7 rfl ?_
          refine aw_iconst (v := nI 0) d_LA_law_466 (by decide) ?_
          refine aw_daldN d_LA_law_467 rfl (by decide) (by omega) ?_
          refine aw_eqd (bl S T D d (qn T) 0) ((k2.2.2.2 70 0 (by omega)).2.1.trans (sD_hit _ _ _ _)) ?_
          refine aw_dload d_LA_law_468 0 rfl ?_
          refine aw_dcmp d_LA_law_470 ?_
          refine ad_eq (bl_01 ws wd wq g2 hd g1 _ (Nat.le_refl _) 0 (by omega) (qn_pos g2)).1.n (bl_01 ws wd wq g2 hd g1 _ (Nat.le_refl _) 0 (by omega) (qn_pos g2)).1.n d_LA_law_471 (tgt := 496) (by decide) (fun c9 => ?_) (fun c9 => ?_)
          · skip
            refine aw_goto (tgt := 957) d_LA_law_496 (by decide) ?_
            refine aw_pick [2, 3, 4, 5, 6, 7] rfl ?_
            exact hK D T S R M2 ⟨hI.1, CI_frC (CI_D c1.1) k2.2.2.2, k2.1, k2.2.1, k2.2.2.1, rr2⟩
          · skip
            exact absurd rfl c9
      · skip
        exfalso; omega
set_option maxRecDepth 8000 in
theorem LC_hits {l : Launch} {b L : Nat} {xs : Nat → Int32} {M : ab_M} {Q : ab_O → ab_M → Prop} {n1 n2 : Nat} (hl : l.stackTraces = false) {D : Dg} {T : Qg} {S : Sg} {R : Rg} (hI : INV D T S R M) {i : Nat} (hi : i + 4 ≤ L) (hL : L ≤ 2048) (hn1 : n1 + 1 ≤ 601024) (hn2 : n2 + 6 ≤ 7293034) (hK : ∀ (D : Dg) (T : Qg) (S : Sg) (R : Rg) (M' : ab_M), INV D T S R M' → AW sys l (ab_Zs9 sys 71 b L xs) k_LA_law 9 207 957 [(5, .int (nI (i))), (0, .ref (71)), (1, .ref (0)), (2, .ref (57)), (3, .ref (69)), (4, .ref (70))] [] M' (n1 + 1) (n2 + 6) Q) : AW sys l (ab_Zs9 sys 71 b L xs) k_LA_law 9 207 499 [(5, .int (nI (i))), (0, .ref (71)), (1, .ref (0)), (2, .ref (57)), (3, .ref (69)), (4, .ref (70))] [] M n1 n2 Q := by
  obtain ⟨⟨wd, wq, ws, wr⟩, ci, ri⟩ := id hI
  obtain ⟨dc, qc, sc, rc⟩ := id ci
  obtain ⟨dr, qr, sr, rr⟩ := id ri
  by_cases hb : ((xs (i + 1)).toInt < 0 ∨ (qn T : Int) ≤ (xs (i + 1)).toInt) ∨ (xs (i + 2)).toInt < 0 ∨ (dn D : Int) ≤ (xs (i + 2)).toInt
  · skip
    refine aw_aload_n d_LA_law_499 rfl 2 rfl ?_
    refine aw_aload_n d_LA_law_500 rfl 1 rfl ?_
    refine aw_iload d_LA_law_501 0 rfl ?_
    refine aw_iconst (v := nI 1) d_LA_law_503 (by decide) ?_
    refine aw_iaddN d_LA_law_504 ?_
    refine aw_sld d_LA_law_505 (pk_in (i + 1) L (by omega)) ?_
    refine aw_eqi (xs (i + 1)) (by rw [nI_clamp (by omega)]) ?_
    refine aw_aload_n d_LA_law_506 rfl 1 rfl ?_
    refine aw_iload d_LA_law_507 0 rfl ?_
    refine aw_iconst (v := nI 2) d_LA_law_509 (by decide) ?_
    refine aw_iaddN d_LA_law_510 ?_
    refine aw_sld d_LA_law_511 (pk_in (i + 2) L (by omega)) ?_
    refine aw_eqi (xs (i + 2)) (by rw [nI_clamp (by omega)]) ?_
    refine aw_aload_n d_LA_law_512 rfl 4 rfl ?_
    refine aw_callSW (K' := k_LA_hits) (As := [.ref (0), .int (xs (i + 1)), .int (xs (i + 2)), .ref (69)]) (rest := []) d_LA_law_513 rfl (by decide) cs_LA_100 rfl (Nat.le_of_ble_eq_true rfl) (Nat.le_of_ble_eq_true rfl) (by show n1 + 1 ≤ 601024; omega) (by show n2 + 6 ≤ 7293034; omega) (d' := 7) (w' := 141) (by decide) (by decide) ?_
    show AW _ _ _ _ _ _ _ [(0, .ref (0)), (1, .int (xs (i + 1))), (2, .int (xs (i + 2))), (3, .ref (69))] _ _ _ _ _
    refine aw_aload_n d_LA_hits_0 rfl 3 rfl ?_
    refine aw_iconst (v := nI 0) d_LA_hits_1 (by decide) ?_
    refine aw_aload_n d_LA_hits_2 rfl 0 rfl ?_
    refine aw_iload_n d_LA_hits_3 rfl 1 rfl ?_
    refine aw_iload_n d_LA_hits_4 rfl 2 rfl ?_
    refine aw_callVX (K' := k_BF_hits) (As := [.int (xs (i + 1)), .int (xs (i + 2))]) (rest := [.int (nI (0)), .ref (69)]) (b := 0) d_LA_hits_5 rfl rfl rfl cs_LA_38 rfl (Nat.le_of_ble_eq_true rfl) (Nat.le_of_ble_eq_true rfl) (by decide) (by decide) (d' := 6) (w' := 119) (by decide) (by decide) ?_
    show AW _ _ _ _ _ _ _ [(0, .ref (0)), (1, .int (xs (i + 1))), (2, .int (xs (i + 2)))] _ _ _ _ _
    refine C_hits_bad hl wd dc wq qc hb ?_
    refine ab_afx2 ct_hits_IOO (by decide) d_LA_hits_13 ?_
    show AW _ _ _ _ _ _ 15 [(0, .ref (0)), (1, .int (xs (i + 1))), (2, .int (xs (i + 2))), (3, .ref (69))] _ _ _ _ _
    refine aw_iconst (v := nI 1) d_LA_hits_15 (by decide) ?_
    refine aw_iret d_LA_hits_16 rfl (by decide) (by decide) (ab_go1 ?_)
    refine aw_istore (lv' := [(6, .int (nI (1))), (5, .int (nI (i))), (0, .ref (71)), (1, .ref (0)), (2, .ref (57)), (3, .ref (69)), (4, .ref (70))]) d_LA_law_516 (by decide) rfl ?_
    refine aw_aload_n d_LA_law_518 rfl 4 rfl ?_
    refine aw_aload_n d_LA_law_519 rfl 2 rfl ?_
    refine aw_iload d_LA_law_520 1 rfl ?_
    refine aw_iconst (v := nI 1) d_LA_law_522 (by decide) ?_
    refine aw_iaddN d_LA_law_523 ?_
    refine aw_sld d_LA_law_524 (pk_in (i + 1) L (by omega)) ?_
    refine aw_eqi (xs (i + 1)) (by rw [nI_clamp (by omega)]) ?_
    refine aw_aload_n d_LA_law_525 rfl 2 rfl ?_
    refine aw_iload d_LA_law_526 1 rfl ?_
    refine aw_iconst (v := nI 2) d_LA_law_528 (by decide) ?_
    refine aw_iaddN d_LA_law_529 ?_
    refine aw_sld d_LA_law_530 (pk_in (i + 2) L (by omega)) ?_
    refine aw_eqi (xs (i + 2)) (by rw [nI_clamp (by omega)]) ?_
    refine aw_callV (K' := k_MO_hits) (As := [.int (xs (i + 1)), .int (xs (i + 2))]) (rest := []) (b := 57) d_LA_law_531 rfl rfl rfl cs_LA_103 rfl (Nat.le_of_ble_eq_true rfl) (Nat.le_of_ble_eq_true rfl) (by show n1 + 1 + 0 ≤ 601024; omega) (by show n2 + 6 + 0 ≤ 7293034; omega) (d' := 3) (w' := 74) (by decide) (by decide) ?_
    show AW _ _ _ _ _ _ _ [(0, .ref (57)), (1, .int (xs (i + 1))), (2, .int (xs (i + 2)))] _ _ _ _ _
    refine R_hits_bad wd dr wq qr hb ?_
    refine ab_go1 ?_
    refine aw_istore (lv' := [(7, .int (nI (0))), (6, .int (nI (1))), (5, .int (nI (i))), (0, .ref (71)), (1, .ref (0)), (2, .ref (57)), (3, .ref (69)), (4, .ref (70))]) d_LA_law_534 (by decide) rfl ?_
    refine aw_aload_n d_LA_law_536 rfl 5 rfl ?_
    refine aw_callV (K' := k_MO_thrown) (As := []) (rest := []) (b := 57) d_LA_law_537 rfl rfl rfl cs_LA_71 rfl (Nat.le_of_ble_eq_true rfl) (Nat.le_of_ble_eq_true rfl) (by show n1 + 1 + 0 ≤ 601024; omega) (by show n2 + 6 + 0 ≤ 7293034; omega) (d' := 0) (w' := 0) (by decide) (by decide) ?_
    show AW _ _ _ _ _ _ _ [(0, .ref (57))] _ _ _ _ _
    refine aw_aload_n d_MO_thrown_0 rfl 0 rfl ?_
    refine aw_get (ic := 57) (ci := 6) (k := 0) d_MO_thrown_1 rfl rfl (by decide) rfl mw_775 rfl ?_
    refine aw_eqi (nI (1)) (sI_hit _ _ _ _) ?_
    refine aw_iret d_MO_thrown_4 rfl (by decide) (by decide) (ab_go1 ?_)
    refine aw_iload d_LA_law_540 1 rfl ?_
    refine aw_icmp_eqN (tgt := 547) d_LA_law_542 (by decide) (by omega) (by omega) (fun c1 => ?_) (fun c1 => ?_)
    · skip
      refine aw_iload d_LA_law_547 1 rfl ?_
      refine aw_if_neN (tgt := 564) d_LA_law_549 (by decide) (by omega) (fun c2 => ?_) (fun c2 => ?_)
      · skip
        refine aw_goto (tgt := 957) d_LA_law_564 (by decide) ?_
        refine aw_pick [2, 3, 4, 5, 6, 7] rfl ?_
        exact hK D T S R _ ⟨hI.1, CI_thr ci, RI_thr ri⟩
      · skip
        exact absurd c2 (by decide)
    · skip
      exfalso; omega
  · skip
    obtain ⟨t, ht, hx⟩ : ∃ t, t < qn T ∧ xs (i + 1) = nI t := ⟨(xs (i + 1)).toInt.toNat, by omega, i32_nat (by omega)⟩
    obtain ⟨d, hd, hy⟩ : ∃ d, d < dn D ∧ xs (i + 2) = nI d := ⟨(xs (i + 2)).toInt.toNat, by omega, i32_nat (by omega)⟩
    refine aw_aload_n d_LA_law_499 rfl 2 rfl ?_
    refine aw_aload_n d_LA_law_500 rfl 1 rfl ?_
    refine aw_iload d_LA_law_501 0 rfl ?_
    refine aw_iconst (v := nI 1) d_LA_law_503 (by decide) ?_
    refine aw_iaddN d_LA_law_504 ?_
    refine aw_sld d_LA_law_505 (pk_in (i + 1) L (by omega)) ?_
    refine aw_eqi (nI (t)) (by rw [nI_clamp (by omega), hx]) ?_
    refine aw_aload_n d_LA_law_506 rfl 1 rfl ?_
    refine aw_iload d_LA_law_507 0 rfl ?_
    refine aw_iconst (v := nI 2) d_LA_law_509 (by decide) ?_
    refine aw_iaddN d_LA_law_510 ?_
    refine aw_sld d_LA_law_511 (pk_in (i + 2) L (by omega)) ?_
    refine aw_eqi (nI (d)) (by rw [nI_clamp (by omega), hy]) ?_
    refine aw_aload_n d_LA_law_512 rfl 4 rfl ?_
    refine aw_callSW (K' := k_LA_hits) (As := [.ref (0), .int (nI (t)), .int (nI (d)), .ref (69)]) (rest := []) d_LA_law_513 rfl (by decide) cs_LA_100 rfl (Nat.le_of_ble_eq_true rfl) (Nat.le_of_ble_eq_true rfl) (by show n1 + 1 ≤ 601024; omega) (by show n2 + 6 ≤ 7293034; omega) (d' := 7) (w' := 141) (by decide) (by decide) ?_
    show AW _ _ _ _ _ _ _ [(0, .ref (0)), (1, .int (nI (t))), (2, .int (nI (d))), (3, .ref (69))] _ _ _ _ _
    refine aw_aload_n d_LA_hits_0 rfl 3 rfl ?_
    refine aw_iconst (v := nI 0) d_LA_hits_1 (by decide) ?_
    refine aw_aload_n d_LA_hits_2 rfl 0 rfl ?_
    refine aw_iload_n d_LA_hits_3 rfl 1 rfl ?_
    refine aw_iload_n d_LA_hits_4 rfl 2 rfl ?_
    refine aw_callVX (K' := k_BF_hits) (As := [.int (nI (t)), .int (nI (d))]) (rest := [.int (nI (0)), .ref (69)]) (b := 0) d_LA_hits_5 rfl rfl rfl cs_LA_38 rfl (Nat.le_of_ble_eq_true rfl) (Nat.le_of_ble_eq_true rfl) (by decide) (by decide) (d' := 6) (w' := 119) (by decide) (by decide) ?_
    show AW _ _ _ _ _ _ _ [(0, .ref (0)), (1, .int (nI (t))), (2, .int (nI (d)))] _ _ _ _ _
    refine C_hits hl wd dc wq qc ht hd (fun hF => ?_) (fun g1 g2 => ?_) (fun g1 g2 => ?_)
    · skip
      refine ab_afx2 ct_hits_ISE (by decide) d_LA_hits_17 ?_
      show AW _ _ _ _ _ _ 19 [(0, .ref (0)), (1, .int (nI (t))), (2, .int (nI (d))), (3, .ref (69))] _ _ _ _ _
      refine aw_iconst (v := nI 2) d_LA_hits_19 (by decide) ?_
      refine aw_iret d_LA_hits_20 rfl (by decide) (by decide) (ab_go1 ?_)
      refine aw_istore (lv' := [(6, .int (nI (2))), (5, .int (nI (i))), (0, .ref (71)), (1, .ref (0)), (2, .ref (57)), (3, .ref (69)), (4, .ref (70))]) d_LA_law_516 (by decide) rfl ?_
      refine aw_aload_n d_LA_law_518 rfl 4 rfl ?_
      refine aw_aload_n d_LA_law_519 rfl 2 rfl ?_
      refine aw_iload d_LA_law_520 1 rfl ?_
      refine aw_iconst (v := nI 1) d_LA_law_522 (by decide) ?_
      refine aw_iaddN d_LA_law_523 ?_
      refine aw_sld d_LA_law_524 (pk_in (i + 1) L (by omega)) ?_
      refine aw_eqi (nI (t)) (by rw [nI_clamp (by omega), hx]) ?_
      refine aw_aload_n d_LA_law_525 rfl 2 rfl ?_
      refine aw_iload d_LA_law_526 1 rfl ?_
      refine aw_iconst (v := nI 2) d_LA_law_528 (by decide) ?_
      refine aw_iaddN d_LA_law_529 ?_
      refine aw_sld d_LA_law_530 (pk_in (i + 2) L (by omega)) ?_
      refine aw_eqi (nI (d)) (by rw [nI_clamp (by omega), hy]) ?_
      refine aw_callV (K' := k_MO_hits) (As := [.int (nI (t)), .int (nI (d))]) (rest := []) (b := 57) d_LA_law_531 rfl rfl rfl cs_LA_103 rfl (Nat.le_of_ble_eq_true rfl) (Nat.le_of_ble_eq_true rfl) (by show n1 + 1 + 0 ≤ 601024; omega) (by show n2 + 6 + 0 ≤ 7293034; omega) (d' := 3) (w' := 74) (by decide) (by decide) ?_
      show AW _ _ _ _ _ _ _ [(0, .ref (57)), (1, .int (nI (t))), (2, .int (nI (d)))] _ _ _ _ _
      refine R_hits wd dr wq qr ht hd (fun _ => ?_) (fun h => absurd h hF) (fun h => absurd h hF)
      refine ab_go1 ?_
      refine aw_istore (lv' := [(7, .int (nI (0))), (6, .int (nI (2))), (5, .int (nI (i))), (0, .ref (71)), (1, .ref (0)), (2, .ref (57)), (3, .ref (69)), (4, .ref (70))]) d_LA_law_534 (by decide) rfl ?_
      refine aw_aload_n d_LA_law_536 rfl 5 rfl ?_
      refine aw_callV (K' := k_MO_thrown) (As := []) (rest := []) (b := 57) d_LA_law_537 rfl rfl rfl cs_LA_71 rfl (Nat.le_of_ble_eq_true rfl) (Nat.le_of_ble_eq_true rfl) (by show n1 + 1 + 0 ≤ 601024; omega) (by show n2 + 6 + 0 ≤ 7293034; omega) (d' := 0) (w' := 0) (by decide) (by decide) ?_
      show AW _ _ _ _ _ _ _ [(0, .ref (57))] _ _ _ _ _
      refine aw_aload_n d_MO_thrown_0 rfl 0 rfl ?_
      refine aw_get (ic := 57) (ci := 6) (k := 0) d_MO_thrown_1 rfl rfl (by decide) rfl mw_775 rfl ?_
      refine aw_eqi (nI (2)) (sI_hit _ _ _ _) ?_
      refine aw_iret d_MO_thrown_4 rfl (by decide) (by decide) (ab_go1 ?_)
      refine aw_iload d_LA_law_540 1 rfl ?_
      refine aw_icmp_eqN (tgt := 547) d_LA_law_542 (by decide) (by omega) (by omega) (fun c1 => ?_) (fun c1 => ?_)
      · skip
        refine aw_iload d_LA_law_547 1 rfl ?_
        refine aw_if_neN (tgt := 564) d_LA_law_549 (by decide) (by omega) (fun c2 => ?_) (fun c2 => ?_)
        · skip
          refine aw_goto (tgt := 957) d_LA_law_564 (by decide) ?_
          refine aw_pick [2, 3, 4, 5, 6, 7] rfl ?_
          exact hK D T S R _ ⟨hI.1, CI_thr ci, RI_thr ri⟩
        · skip
          exact absurd c2 (by decide)
      · skip
        exfalso; omega
    · skip
      refine ab_afx2 ct_hits_UOE (by decide) d_LA_hits_21 ?_
      show AW _ _ _ _ _ _ 23 [(0, .ref (0)), (1, .int (nI (t))), (2, .int (nI (d))), (3, .ref (69))] _ _ _ _ _
      refine aw_iconst (v := nI 3) d_LA_hits_23 (by decide) ?_
      refine aw_iret d_LA_hits_24 rfl (by decide) (by decide) (ab_go1 ?_)
      refine aw_istore (lv' := [(6, .int (nI (3))), (5, .int (nI (i))), (0, .ref (71)), (1, .ref (0)), (2, .ref (57)), (3, .ref (69)), (4, .ref (70))]) d_LA_law_516 (by decide) rfl ?_
      refine aw_aload_n d_LA_law_518 rfl 4 rfl ?_
      refine aw_aload_n d_LA_law_519 rfl 2 rfl ?_
      refine aw_iload d_LA_law_520 1 rfl ?_
      refine aw_iconst (v := nI 1) d_LA_law_522 (by decide) ?_
      refine aw_iaddN d_LA_law_523 ?_
      refine aw_sld d_LA_law_524 (pk_in (i + 1) L (by omega)) ?_
      refine aw_eqi (nI (t)) (by rw [nI_clamp (by omega), hx]) ?_
      refine aw_aload_n d_LA_law_525 rfl 2 rfl ?_
      refine aw_iload d_LA_law_526 1 rfl ?_
      refine aw_iconst (v := nI 2) d_LA_law_528 (by decide) ?_
      refine aw_iaddN d_LA_law_529 ?_
      refine aw_sld d_LA_law_530 (pk_in (i + 2) L (by omega)) ?_
      refine aw_eqi (nI (d)) (by rw [nI_clamp (by omega), hy]) ?_
      refine aw_callV (K' := k_MO_hits) (As := [.int (nI (t)), .int (nI (d))]) (rest := []) (b := 57) d_LA_law_531 rfl rfl rfl cs_LA_103 rfl (Nat.le_of_ble_eq_true rfl) (Nat.le_of_ble_eq_true rfl) (by show n1 + 1 + 0 ≤ 601024; omega) (by show n2 + 6 + 0 ≤ 7293034; omega) (d' := 3) (w' := 74) (by decide) (by decide) ?_
      show AW _ _ _ _ _ _ _ [(0, .ref (57)), (1, .int (nI (t))), (2, .int (nI (d)))] _ _ _ _ _
      refine R_hits wd dr wq qr ht hd (fun h => absurd g1 h) (fun _ _ => ?_) (fun _ h => absurd h (by omega))
      refine ab_go1 ?_
      refine aw_istore (lv' := [(7, .int (nI (0))), (6, .int (nI (3))), (5, .int (nI (i))), (0, .ref (71)), (1, .ref (0)), (2, .ref (57)), (3, .ref (69)), (4, .ref (70))]) d_LA_law_534 (by decide) rfl ?_
      refine aw_aload_n d_LA_law_536 rfl 5 rfl ?_
      refine aw_callV (K' := k_MO_thrown) (As := []) (rest := []) (b := 57) d_LA_law_537 rfl rfl rfl cs_LA_71 rfl (Nat.le_of_ble_eq_true rfl) (Nat.le_of_ble_eq_true rfl) (by show n1 + 1 + 0 ≤ 601024; omega) (by show n2 + 6 + 0 ≤ 7293034; omega) (d' := 0) (w' := 0) (by decide) (by decide) ?_
      show AW _ _ _ _ _ _ _ [(0, .ref (57))] _ _ _ _ _
      refine aw_aload_n d_MO_thrown_0 rfl 0 rfl ?_
      refine aw_get (ic := 57) (ci := 6) (k := 0) d_MO_thrown_1 rfl rfl (by decide) rfl mw_775 rfl ?_
      refine aw_eqi (nI (3)) (sI_hit _ _ _ _) ?_
      refine aw_iret d_MO_thrown_4 rfl (by decide) (by decide) (ab_go1 ?_)
      refine aw_iload d_LA_law_540 1 rfl ?_
      refine aw_icmp_eqN (tgt := 547) d_LA_law_542 (by decide) (by omega) (by omega) (fun c3 => ?_) (fun c3 => ?_)
      · skip
        refine aw_iload d_LA_law_547 1 rfl ?_
        refine aw_if_neN (tgt := 564) d_LA_law_549 (by decide) (by omega) (fun c4 => ?_) (fun c4 => ?_)
        · skip
          refine aw_goto (tgt := 957) d_LA_law_564 (by decide) ?_
          refine aw_pick [2, 3, 4, 5, 6, 7] rfl ?_
          exact hK D T S R _ ⟨hI.1, CI_thr ci, RI_thr ri⟩
        · skip
          exact absurd c4 (by decide)
      · skip
        exfalso; omega
    · skip
      refine ab_af1 ?_
      refine aw_i2l d_LA_hits_8 ?_
      refine aw_lastN d_LA_hits_9 rfl (by decide) (by omega) ?_
      refine aw_goto (tgt := 25) d_LA_hits_10 (by decide) ?_
      refine aw_iconst (v := nI 0) d_LA_hits_25 (by decide) ?_
      refine aw_iret d_LA_hits_26 rfl (by decide) (by decide) (ab_go1 ?_)
      refine aw_istore (lv' := [(6, .int (nI (0))), (5, .int (nI (i))), (0, .ref (71)), (1, .ref (0)), (2, .ref (57)), (3, .ref (69)), (4, .ref (70))]) d_LA_law_516 (by decide) rfl ?_
      refine aw_aload_n d_LA_law_518 rfl 4 rfl ?_
      refine aw_aload_n d_LA_law_519 rfl 2 rfl ?_
      refine aw_iload d_LA_law_520 1 rfl ?_
      refine aw_iconst (v := nI 1) d_LA_law_522 (by decide) ?_
      refine aw_iaddN d_LA_law_523 ?_
      refine aw_sld d_LA_law_524 (pk_in (i + 1) L (by omega)) ?_
      refine aw_eqi (nI (t)) (by rw [nI_clamp (by omega), hx]) ?_
      refine aw_aload_n d_LA_law_525 rfl 2 rfl ?_
      refine aw_iload d_LA_law_526 1 rfl ?_
      refine aw_iconst (v := nI 2) d_LA_law_528 (by decide) ?_
      refine aw_iaddN d_LA_law_529 ?_
      refine aw_sld d_LA_law_530 (pk_in (i + 2) L (by omega)) ?_
      refine aw_eqi (nI (d)) (by rw [nI_clamp (by omega), hy]) ?_
      refine aw_callV (K' := k_MO_hits) (As := [.int (nI (t)), .int (nI (d))]) (rest := []) (b := 57) d_LA_law_531 rfl rfl rfl cs_LA_103 rfl (Nat.le_of_ble_eq_true rfl) (Nat.le_of_ble_eq_true rfl) (by show n1 + 1 + 0 ≤ 601024; omega) (by show n2 + 6 + 0 ≤ 7293034; omega) (d' := 3) (w' := 74) (by decide) (by decide) ?_
      show AW _ _ _ _ _ _ _ [(0, .ref (57)), (1, .int (nI (t))), (2, .int (nI (d)))] _ _ _ _ _
      have r1 : RI D T S R (ab_sJ M (69) (0) (Int32.toInt64 (nI (cn (hitB T D t d) (dl D d))))) := RI_J ri
      refine R_hits wd r1.1 wq r1.2.1 ht hd (fun h => absurd g1 h) (fun _ h => absurd h (by omega)) (fun _ _ => ?_)
      refine ab_go1 ?_
      refine aw_istore (lv' := [(7, .int (nI (cn (hitB T D t d) (dl D d)))), (6, .int (nI (0))), (5, .int (nI (i))), (0, .ref (71)), (1, .ref (0)), (2, .ref (57)), (3, .ref (69)), (4, .ref (70))]) d_LA_law_534 (by decide) rfl ?_
      refine aw_aload_n d_LA_law_536 rfl 5 rfl ?_
      refine aw_callV (K' := k_MO_thrown) (As := []) (rest := []) (b := 57) d_LA_law_537 rfl rfl rfl cs_LA_71 rfl (Nat.le_of_ble_eq_true rfl) (Nat.le_of_ble_eq_true rfl) (by show n1 + 1 + 0 ≤ 601024; omega) (by show n2 + 6 + 0 ≤ 7293034; omega) (d' := 0) (w' := 0) (by decide) (by decide) ?_
      show AW _ _ _ _ _ _ _ [(0, .ref (57))] _ _ _ _ _
      refine aw_aload_n d_MO_thrown_0 rfl 0 rfl ?_
      refine aw_get (ic := 57) (ci := 6) (k := 0) d_MO_thrown_1 rfl rfl (by decide) rfl mw_775 rfl ?_
      refine aw_eqi (nI (0)) (sI_hit _ _ _ _) ?_
      refine aw_iret d_MO_thrown_4 rfl (by decide) (by decide) (ab_go1 ?_)
      refine aw_iload d_LA_law_540 1 rfl ?_
      refine aw_icmp_eqN (tgt := 547) d_LA_law_542 (by decide) (by omega) (by omega) (fun c5 => ?_) (fun c5 => ?_)
      · skip
        refine aw_iload d_LA_law_547 1 rfl ?_
        refine aw_if_neN (tgt := 564) d_LA_law_549 (by decide) (by omega) (fun c6 => ?_) (fun c6 => ?_)
        · skip
          exact absurd c6 (by decide)
        · skip
          refine aw_aload_n d_LA_law_552 rfl 6 rfl ?_
          refine aw_iconst (v := nI 0) d_LA_law_553 (by decide) ?_
          refine aw_laldN d_LA_law_554 rfl (by decide) (by omega) ?_
          refine aw_eql (Int32.toInt64 (nI (cn (hitB T D t d) (dl D d)))) (sJ_thr _ _ _) ?_
          refine aw_iload d_LA_law_555 0 rfl ?_
          refine aw_i2l d_LA_law_557 ?_
          refine aw_lcmp d_LA_law_558 ?_
          refine aw_eqi (nI (0)) (lg_self _) ?_
          refine aw_if_eqN (tgt := 564) d_LA_law_559 (by decide) (by omega) (fun c7 => ?_) (fun c7 => ?_)
          · skip
            refine aw_goto (tgt := 957) d_LA_law_564 (by decide) ?_
            refine aw_pick [2, 3, 4, 5, 6, 7] rfl ?_
            exact hK D T S R _ ⟨hI.1, CI_thr (CI_J ci), RI_thr r1⟩
          · skip
            exact absurd c7 (by decide)
      · skip
        exfalso; omega
set_option maxRecDepth 8000 in
theorem LC_search {l : Launch} {b L : Nat} {xs : Nat → Int32} {M : ab_M} {Q : ab_O → ab_M → Prop} {n1 n2 : Nat} (hl : l.stackTraces = false) {D : Dg} {T : Qg} {S : Sg} {R : Rg} (hI : INV D T S R M) {i : Nat} (hi : i + 4 ≤ L) (hL : L ≤ 2048) (hn1 : n1 + 1 ≤ 601024) (hn2 : n2 + 6 ≤ 7293034) (hK : ∀ (D : Dg) (T : Qg) (S : Sg) (R : Rg) (M' : ab_M), INV D T S R M' → AW sys l (ab_Zs9 sys 71 b L xs) k_LA_law 9 207 957 [(5, .int (nI (i))), (0, .ref (71)), (1, .ref (0)), (2, .ref (57)), (3, .ref (69)), (4, .ref (70))] [] M' (n1 + 1) (n2 + 6) Q) : AW sys l (ab_Zs9 sys 71 b L xs) k_LA_law 9 207 567 [(5, .int (nI (i))), (0, .ref (71)), (1, .ref (0)), (2, .ref (57)), (3, .ref (69)), (4, .ref (70))] [] M n1 n2 Q := by
  obtain ⟨⟨wd, wq, ws, wr⟩, ci, ri⟩ := id hI
  obtain ⟨dc, qc, sc, rc⟩ := id ci
  obtain ⟨dr, qr, sr, rr⟩ := id ri
  by_cases hb : (xs (i + 1)).toInt < 1 ∨ 10 < (xs (i + 1)).toInt
  · skip
    refine aw_aload_n d_LA_law_567 rfl 2 rfl ?_
    refine aw_aload_n d_LA_law_568 rfl 1 rfl ?_
    refine aw_iload d_LA_law_569 0 rfl ?_
    refine aw_iconst (v := nI 1) d_LA_law_571 (by decide) ?_
    refine aw_iaddN d_LA_law_572 ?_
    refine aw_sld d_LA_law_573 (pk_in (i + 1) L (by omega)) ?_
    refine aw_eqi (xs (i + 1)) (by rw [nI_clamp (by omega)]) ?_
    refine aw_aload_n d_LA_law_574 rfl 4 rfl ?_
    refine aw_callSW (K' := k_LA_search) (As := [.ref (0), .int (xs (i + 1)), .ref (69)]) (rest := []) d_LA_law_575 rfl (by decide) cs_LA_104 rfl (Nat.le_of_ble_eq_true rfl) (Nat.le_of_ble_eq_true rfl) (by show n1 + 1 ≤ 601024; omega) (by show n2 + 6 ≤ 7293034; omega) (d' := 8) (w' := 184) (by decide) (by decide) ?_
    show AW _ _ _ _ _ _ _ [(0, .ref (0)), (1, .int (xs (i + 1))), (2, .ref (69))] _ _ _ _ _
    refine aw_aload_n d_LA_search_0 rfl 2 rfl ?_
    refine aw_iconst (v := nI 0) d_LA_search_1 (by decide) ?_
    refine aw_aload_n d_LA_search_2 rfl 0 rfl ?_
    refine aw_iload_n d_LA_search_3 rfl 1 rfl ?_
    refine aw_callVX (K' := k_BF_search) (As := [.int (xs (i + 1))]) (rest := [.int (nI (0)), .ref (69)]) (b := 0) d_LA_search_4 rfl rfl rfl cs_LA_42 rfl (Nat.le_of_ble_eq_true rfl) (Nat.le_of_ble_eq_true rfl) (by decide) (by decide) (d' := 7) (w' := 162) (by decide) (by decide) ?_
    show AW _ _ _ _ _ _ _ [(0, .ref (0)), (1, .int (xs (i + 1)))] _ _ _ _ _
    refine C_search_bad hl hb ?_
    refine ab_afx1 (k := 3) ct_search_IAE (by decide) d_LA_search_12 rfl ?_
    show AW _ _ _ _ _ _ 13 [(0, .ref (0)), (1, .int (xs (i + 1))), (2, .ref (69))] _ _ _ _ _
    refine aw_iconst (v := nI 1) d_LA_search_13 (by decide) ?_
    refine aw_iret d_LA_search_14 rfl (by decide) (by decide) (ab_go1 ?_)
    refine aw_istore (lv' := [(6, .int (nI (1))), (5, .int (nI (i))), (0, .ref (71)), (1, .ref (0)), (2, .ref (57)), (3, .ref (69)), (4, .ref (70))]) d_LA_law_578 (by decide) rfl ?_
    refine aw_aload_n d_LA_law_580 rfl 4 rfl ?_
    refine aw_aload_n d_LA_law_581 rfl 2 rfl ?_
    refine aw_iload d_LA_law_582 1 rfl ?_
    refine aw_iconst (v := nI 1) d_LA_law_584 (by decide) ?_
    refine aw_iaddN d_LA_law_585 ?_
    refine aw_sld d_LA_law_586 (pk_in (i + 1) L (by omega)) ?_
    refine aw_eqi (xs (i + 1)) (by rw [nI_clamp (by omega)]) ?_
    refine aw_callV (K' := k_MO_search) (As := [.int (xs (i + 1))]) (rest := []) (b := 57) d_LA_law_587 rfl rfl rfl cs_LA_106 rfl (Nat.le_of_ble_eq_true rfl) (Nat.le_of_ble_eq_true rfl) (by show n1 + 1 + 0 ≤ 601024; omega) (by show n2 + 6 + 0 ≤ 7293034; omega) (d' := 5) (w' := 129) (by decide) (by decide) ?_
    show AW _ _ _ _ _ _ _ [(0, .ref (57)), (1, .int (xs (i + 1)))] _ _ _ _ _
    refine R_search_bad hb ?_
    refine ab_go1 ?_
    refine aw_istore (lv' := [(7, .int (nI (0))), (6, .int (nI (1))), (5, .int (nI (i))), (0, .ref (71)), (1, .ref (0)), (2, .ref (57)), (3, .ref (69)), (4, .ref (70))]) d_LA_law_590 (by decide) rfl ?_
    refine aw_aload_n d_LA_law_592 rfl 5 rfl ?_
    refine aw_callV (K' := k_MO_thrown) (As := []) (rest := []) (b := 57) d_LA_law_593 rfl rfl rfl cs_LA_71 rfl (Nat.le_of_ble_eq_true rfl) (Nat.le_of_ble_eq_true rfl) (by show n1 + 1 + 0 ≤ 601024; omega) (by show n2 + 6 + 0 ≤ 7293034; omega) (d' := 0) (w' := 0) (by decide) (by decide) ?_
    show AW _ _ _ _ _ _ _ [(0, .ref (57))] _ _ _ _ _
    refine aw_aload_n d_MO_thrown_0 rfl 0 rfl ?_
    refine aw_get (ic := 57) (ci := 6) (k := 0) d_MO_thrown_1 rfl rfl (by decide) rfl mw_775 rfl ?_
    refine aw_eqi (nI (1)) (sI_hit _ _ _ _) ?_
    refine aw_iret d_MO_thrown_4 rfl (by decide) (by decide) (ab_go1 ?_)
    refine aw_iload d_LA_law_596 1 rfl ?_
    refine aw_icmp_eqN (tgt := 603) d_LA_law_598 (by decide) (by omega) (by omega) (fun c1 => ?_) (fun c1 => ?_)
    · skip
      refine aw_iload d_LA_law_603 1 rfl ?_
      refine aw_if_neN (tgt := 620) d_LA_law_605 (by decide) (by omega) (fun c2 => ?_) (fun c2 => ?_)
      · skip
        refine aw_goto (tgt := 957) d_LA_law_620 (by decide) ?_
        refine aw_pick [2, 3, 4, 5, 6, 7] rfl ?_
        exact hK D T S R _ ⟨hI.1, CI_thr ci, RI_thr ri⟩
      · skip
        exact absurd c2 (by decide)
    · skip
      exfalso; omega
  · skip
    obtain ⟨k, hk1, hk10, hx⟩ : ∃ k, 1 ≤ k ∧ k ≤ 10 ∧ xs (i + 1) = nI k := ⟨(xs (i + 1)).toInt.toNat, by omega, by omega, i32_nat (by omega)⟩
    refine aw_aload_n d_LA_law_567 rfl 2 rfl ?_
    refine aw_aload_n d_LA_law_568 rfl 1 rfl ?_
    refine aw_iload d_LA_law_569 0 rfl ?_
    refine aw_iconst (v := nI 1) d_LA_law_571 (by decide) ?_
    refine aw_iaddN d_LA_law_572 ?_
    refine aw_sld d_LA_law_573 (pk_in (i + 1) L (by omega)) ?_
    refine aw_eqi (nI (k)) (by rw [nI_clamp (by omega), hx]) ?_
    refine aw_aload_n d_LA_law_574 rfl 4 rfl ?_
    refine aw_callSW (K' := k_LA_search) (As := [.ref (0), .int (nI (k)), .ref (69)]) (rest := []) d_LA_law_575 rfl (by decide) cs_LA_104 rfl (Nat.le_of_ble_eq_true rfl) (Nat.le_of_ble_eq_true rfl) (by show n1 + 1 ≤ 601024; omega) (by show n2 + 6 ≤ 7293034; omega) (d' := 8) (w' := 184) (by decide) (by decide) ?_
    show AW _ _ _ _ _ _ _ [(0, .ref (0)), (1, .int (nI (k))), (2, .ref (69))] _ _ _ _ _
    refine aw_aload_n d_LA_search_0 rfl 2 rfl ?_
    refine aw_iconst (v := nI 0) d_LA_search_1 (by decide) ?_
    refine aw_aload_n d_LA_search_2 rfl 0 rfl ?_
    refine aw_iload_n d_LA_search_3 rfl 1 rfl ?_
    refine aw_callVX (K' := k_BF_search) (As := [.int (nI (k))]) (rest := [.int (nI (0)), .ref (69)]) (b := 0) d_LA_search_4 rfl rfl rfl cs_LA_42 rfl (Nat.le_of_ble_eq_true rfl) (Nat.le_of_ble_eq_true rfl) (by decide) (by decide) (d' := 7) (w' := 162) (by decide) (by decide) ?_
    show AW _ _ _ _ _ _ _ [(0, .ref (0)), (1, .int (nI (k)))] _ _ _ _ _
    refine C_search hl wd dc wq qc ws sc hk1 hk10 (fun hF => ?_) (fun g1 M1 r1 f1 => ?_)
    · skip
      refine ab_afx1 (k := 3) ct_search_ISE (by decide) d_LA_search_15 rfl ?_
      show AW _ _ _ _ _ _ 16 [(0, .ref (0)), (1, .int (nI (k))), (2, .ref (69))] _ _ _ _ _
      refine aw_iconst (v := nI 2) d_LA_search_16 (by decide) ?_
      refine aw_iret d_LA_search_17 rfl (by decide) (by decide) (ab_go1 ?_)
      refine aw_istore (lv' := [(6, .int (nI (2))), (5, .int (nI (i))), (0, .ref (71)), (1, .ref (0)), (2, .ref (57)), (3, .ref (69)), (4, .ref (70))]) d_LA_law_578 (by decide) rfl ?_
      refine aw_aload_n d_LA_law_580 rfl 4 rfl ?_
      refine aw_aload_n d_LA_law_581 rfl 2 rfl ?_
      refine aw_iload d_LA_law_582 1 rfl ?_
      refine aw_iconst (v := nI 1) d_LA_law_584 (by decide) ?_
      refine aw_iaddN d_LA_law_585 ?_
      refine aw_sld d_LA_law_586 (pk_in (i + 1) L (by omega)) ?_
      refine aw_eqi (nI (k)) (by rw [nI_clamp (by omega), hx]) ?_
      refine aw_callV (K' := k_MO_search) (As := [.int (nI (k))]) (rest := []) (b := 57) d_LA_law_587 rfl rfl rfl cs_LA_106 rfl (Nat.le_of_ble_eq_true rfl) (Nat.le_of_ble_eq_true rfl) (by show n1 + 1 + 0 ≤ 601024; omega) (by show n2 + 6 + 0 ≤ 7293034; omega) (d' := 5) (w' := 129) (by decide) (by decide) ?_
      show AW _ _ _ _ _ _ _ [(0, .ref (57)), (1, .int (nI (k)))] _ _ _ _ _
      refine R_search wd dr wq qr ws sr hk1 hk10 (fun _ => ?_) (fun h => absurd h hF)
      refine ab_go1 ?_
      refine aw_istore (lv' := [(7, .int (nI (0))), (6, .int (nI (2))), (5, .int (nI (i))), (0, .ref (71)), (1, .ref (0)), (2, .ref (57)), (3, .ref (69)), (4, .ref (70))]) d_LA_law_590 (by decide) rfl ?_
      refine aw_aload_n d_LA_law_592 rfl 5 rfl ?_
      refine aw_callV (K' := k_MO_thrown) (As := []) (rest := []) (b := 57) d_LA_law_593 rfl rfl rfl cs_LA_71 rfl (Nat.le_of_ble_eq_true rfl) (Nat.le_of_ble_eq_true rfl) (by show n1 + 1 + 0 ≤ 601024; omega) (by show n2 + 6 + 0 ≤ 7293034; omega) (d' := 0) (w' := 0) (by decide) (by decide) ?_
      show AW _ _ _ _ _ _ _ [(0, .ref (57))] _ _ _ _ _
      refine aw_aload_n d_MO_thrown_0 rfl 0 rfl ?_
      refine aw_get (ic := 57) (ci := 6) (k := 0) d_MO_thrown_1 rfl rfl (by decide) rfl mw_775 rfl ?_
      refine aw_eqi (nI (2)) (sI_hit _ _ _ _) ?_
      refine aw_iret d_MO_thrown_4 rfl (by decide) (by decide) (ab_go1 ?_)
      refine aw_iload d_LA_law_596 1 rfl ?_
      refine aw_icmp_eqN (tgt := 603) d_LA_law_598 (by decide) (by omega) (by omega) (fun c1 => ?_) (fun c1 => ?_)
      · skip
        refine aw_iload d_LA_law_603 1 rfl ?_
        refine aw_if_neN (tgt := 620) d_LA_law_605 (by decide) (by omega) (fun c2 => ?_) (fun c2 => ?_)
        · skip
          refine aw_goto (tgt := 957) d_LA_law_620 (by decide) ?_
          refine aw_pick [2, 3, 4, 5, 6, 7] rfl ?_
          exact hK D T S R _ ⟨hI.1, CI_thr ci, RI_thr ri⟩
        · skip
          exact absurd c2 (by decide)
      · skip
        exfalso; omega
    · skip
      refine ab_af1 ?_
      refine aw_i2l d_LA_search_7 ?_
      refine aw_lastN d_LA_search_8 rfl (by decide) (by omega) ?_
      refine aw_goto (tgt := 18) d_LA_search_9 (by decide) ?_
      refine aw_iconst (v := nI 0) d_LA_search_18 (by decide) ?_
      refine aw_iret d_LA_search_19 rfl (by decide) (by decide) (ab_go1 ?_)
      refine aw_istore (lv' := [(6, .int (nI (0))), (5, .int (nI (i))), (0, .ref (71)), (1, .ref (0)), (2, .ref (57)), (3, .ref (69)), (4, .ref (70))]) d_LA_law_578 (by decide) rfl ?_
      refine aw_aload_n d_LA_law_580 rfl 4 rfl ?_
      refine aw_aload_n d_LA_law_581 rfl 2 rfl ?_
      refine aw_iload d_LA_law_582 1 rfl ?_
      refine aw_iconst (v := nI 1) d_LA_law_584 (by decide) ?_
      refine aw_iaddN d_LA_law_585 ?_
      refine aw_sld d_LA_law_586 (pk_in (i + 1) L (by omega)) ?_
      refine aw_eqi (nI (k)) (by rw [nI_clamp (by omega), hx]) ?_
      refine aw_callV (K' := k_MO_search) (As := [.int (nI (k))]) (rest := []) (b := 57) d_LA_law_587 rfl rfl rfl cs_LA_106 rfl (Nat.le_of_ble_eq_true rfl) (Nat.le_of_ble_eq_true rfl) (by show n1 + 1 + 0 ≤ 601024; omega) (by show n2 + 6 + 0 ≤ 7293034; omega) (d' := 5) (w' := 129) (by decide) (by decide) ?_
      show AW _ _ _ _ _ _ _ [(0, .ref (57)), (1, .int (nI (k)))] _ _ _ _ _
      have c1 := seaC_ok ci r1 f1
      have q1 : RI D T S R (ab_sJ M1 (69) (0) (Int32.toInt64 (nI (rn (srR S T D k))))) := RI_J (RI_frR ri c1.2)
      refine R_search wd q1.1 wq q1.2.1 ws q1.2.2.1 hk1 hk10 (fun h => absurd g1 h) (fun _ M2 rr2 k2 t2 => ?_)
      refine ab_go1 ?_
      refine aw_istore (lv' := [(7, .int (nI (rn (srR S T D k)))), (6, .int (nI (0))), (5, .int (nI (i))), (0, .ref (71)), (1, .ref (0)), (2, .ref (57)), (3, .ref (69)), (4, .ref (70))]) d_LA_law_590 (by decide) rfl ?_
      refine aw_aload_n d_LA_law_592 rfl 5 rfl ?_
      refine aw_callV (K' := k_MO_thrown) (As := []) (rest := []) (b := 57) d_LA_law_593 rfl rfl rfl cs_LA_71 rfl (Nat.le_of_ble_eq_true rfl) (Nat.le_of_ble_eq_true rfl) (by show n1 + 1 + 0 ≤ 601024; omega) (by show n2 + 6 + 0 ≤ 7293034; omega) (d' := 0) (w' := 0) (by decide) (by decide) ?_
      show AW _ _ _ _ _ _ _ [(0, .ref (57))] _ _ _ _ _
      refine aw_aload_n d_MO_thrown_0 rfl 0 rfl ?_
      refine aw_get (ic := 57) (ci := 6) (k := 0) d_MO_thrown_1 rfl rfl (by decide) rfl mw_775 rfl ?_
      refine aw_eqi (nI (0)) t2 ?_
      refine aw_iret d_MO_thrown_4 rfl (by decide) (by decide) (ab_go1 ?_)
      refine aw_iload d_LA_law_596 1 rfl ?_
      refine aw_icmp_eqN (tgt := 603) d_LA_law_598 (by decide) (by omega) (by omega) (fun c3 => ?_) (fun c3 => ?_)
      · skip
        refine aw_iload d_LA_law_603 1 rfl ?_
        refine aw_if_neN (tgt := 620) d_LA_law_605 (by decide) (by omega) (fun c4 => ?_) (fun c4 => ?_)
        · skip
          exact absurd c4 (by decide)
        · skip
          refine aw_aload_n d_LA_law_608 rfl 6 rfl ?_
          refine aw_iconst (v := nI 0) d_LA_law_609 (by decide) ?_
          refine aw_laldN d_LA_law_610 rfl (by decide) (by omega) ?_
          refine aw_eql (Int32.toInt64 (nI (rn (srR S T D k)))) ((k2.2.2.2 69 0 (by omega)).2.2.trans (sJ_hit _ _ _ _)) ?_
          refine aw_iload d_LA_law_611 0 rfl ?_
          refine aw_i2l d_LA_law_613 ?_
          refine aw_lcmp d_LA_law_614 ?_
          refine aw_eqi (nI (0)) (lg_self _) ?_
          refine aw_if_eqN (tgt := 620) d_LA_law_615 (by decide) (by omega) (fun c5 => ?_) (fun c5 => ?_)
          · skip
            refine aw_goto (tgt := 957) d_LA_law_620 (by decide) ?_
            refine aw_pick [2, 3, 4, 5, 6, 7] rfl ?_
            exact hK D T S (srR S T D k) M2 ⟨⟨wd, wq, ws, srR_ok ws wd wq g1 k⟩, CI_frC (CI_J c1.1) k2.2.2.2, k2.1, k2.2.1, k2.2.2.1, rr2⟩
          · skip
            exact absurd c5 (by decide)
      · skip
        exfalso; omega
set_option maxRecDepth 8000 in
theorem LC_found {l : Launch} {b L : Nat} {xs : Nat → Int32} {M : ab_M} {Q : ab_O → ab_M → Prop} {n1 n2 : Nat} (hl : l.stackTraces = false) {D : Dg} {T : Qg} {S : Sg} {R : Rg} (hI : INV D T S R M) {i : Nat} (hi : i + 4 ≤ L) (hL : L ≤ 2048) (hn1 : n1 + 1 ≤ 601024) (hn2 : n2 + 6 ≤ 7293034) (hK : ∀ (D : Dg) (T : Qg) (S : Sg) (R : Rg) (M' : ab_M), INV D T S R M' → AW sys l (ab_Zs9 sys 71 b L xs) k_LA_law 9 207 957 [(5, .int (nI (i))), (0, .ref (71)), (1, .ref (0)), (2, .ref (57)), (3, .ref (69)), (4, .ref (70))] [] M' (n1 + 1) (n2 + 6) Q) : AW sys l (ab_Zs9 sys 71 b L xs) k_LA_law 9 207 623 [(5, .int (nI (i))), (0, .ref (71)), (1, .ref (0)), (2, .ref (57)), (3, .ref (69)), (4, .ref (70))] [] M n1 n2 Q := by
  obtain ⟨⟨wd, wq, ws, wr⟩, ci, ri⟩ := id hI
  obtain ⟨dc, qc, sc, rc⟩ := id ci
  obtain ⟨dr, qr, sr, rr⟩ := id ri
  by_cases hb : (xs (i + 1)).toInt < 0 ∨ (rn R : Int) ≤ (xs (i + 1)).toInt
  · skip
    refine aw_aload_n d_LA_law_623 rfl 2 rfl ?_
    refine aw_aload_n d_LA_law_624 rfl 1 rfl ?_
    refine aw_iload d_LA_law_625 0 rfl ?_
    refine aw_iconst (v := nI 1) d_LA_law_627 (by decide) ?_
    refine aw_iaddN d_LA_law_628 ?_
    refine aw_sld d_LA_law_629 (pk_in (i + 1) L (by omega)) ?_
    refine aw_eqi (xs (i + 1)) (by rw [nI_clamp (by omega)]) ?_
    refine aw_aload_n d_LA_law_630 rfl 4 rfl ?_
    refine aw_callSW (K' := k_LA_found) (As := [.ref (0), .int (xs (i + 1)), .ref (69)]) (rest := []) d_LA_law_631 rfl (by decide) cs_LA_107 rfl (Nat.le_of_ble_eq_true rfl) (Nat.le_of_ble_eq_true rfl) (by show n1 + 1 ≤ 601024; omega) (by show n2 + 6 ≤ 7293034; omega) (d' := 7) (w' := 111) (by decide) (by decide) ?_
    show AW _ _ _ _ _ _ _ [(0, .ref (0)), (1, .int (xs (i + 1))), (2, .ref (69))] _ _ _ _ _
    refine aw_aload_n d_LA_found_0 rfl 2 rfl ?_
    refine aw_iconst (v := nI 0) d_LA_found_1 (by decide) ?_
    refine aw_aload_n d_LA_found_2 rfl 0 rfl ?_
    refine aw_iload_n d_LA_found_3 rfl 1 rfl ?_
    refine aw_callVX (K' := k_BF_found) (As := [.int (xs (i + 1))]) (rest := [.int (nI (0)), .ref (69)]) (b := 0) d_LA_found_4 rfl rfl rfl cs_LA_45 rfl (Nat.le_of_ble_eq_true rfl) (Nat.le_of_ble_eq_true rfl) (by decide) (by decide) (d' := 6) (w' := 90) (by decide) (by decide) ?_
    show AW _ _ _ _ _ _ _ [(0, .ref (0)), (1, .int (xs (i + 1)))] _ _ _ _ _
    refine C_found_bad hl wr.1 rc hb ?_
    refine ab_afx1 (k := 3) ct_found_IOO (by decide) d_LA_found_12 rfl ?_
    show AW _ _ _ _ _ _ 13 [(0, .ref (0)), (1, .int (xs (i + 1))), (2, .ref (69))] _ _ _ _ _
    refine aw_iconst (v := nI 1) d_LA_found_13 (by decide) ?_
    refine aw_iret d_LA_found_14 rfl (by decide) (by decide) (ab_go1 ?_)
    refine aw_istore (lv' := [(6, .int (nI (1))), (5, .int (nI (i))), (0, .ref (71)), (1, .ref (0)), (2, .ref (57)), (3, .ref (69)), (4, .ref (70))]) d_LA_law_634 (by decide) rfl ?_
    refine aw_aload_n d_LA_law_636 rfl 4 rfl ?_
    refine aw_aload_n d_LA_law_637 rfl 2 rfl ?_
    refine aw_iload d_LA_law_638 1 rfl ?_
    refine aw_iconst (v := nI 1) d_LA_law_640 (by decide) ?_
    refine aw_iaddN d_LA_law_641 ?_
    refine aw_sld d_LA_law_642 (pk_in (i + 1) L (by omega)) ?_
    refine aw_eqi (xs (i + 1)) (by rw [nI_clamp (by omega)]) ?_
    refine aw_callV (K' := k_MO_found) (As := [.int (xs (i + 1))]) (rest := []) (b := 57) d_LA_law_643 rfl rfl rfl cs_LA_109 rfl (Nat.le_of_ble_eq_true rfl) (Nat.le_of_ble_eq_true rfl) (by show n1 + 1 + 0 ≤ 601024; omega) (by show n2 + 6 + 0 ≤ 7293034; omega) (d' := 1) (w' := 22) (by decide) (by decide) ?_
    show AW _ _ _ _ _ _ _ [(0, .ref (57)), (1, .int (xs (i + 1)))] _ _ _ _ _
    refine R_found_bad wr.1 rr hb ?_
    refine ab_go1 ?_
    refine aw_istore (lv' := [(7, .int (nI (0))), (6, .int (nI (1))), (5, .int (nI (i))), (0, .ref (71)), (1, .ref (0)), (2, .ref (57)), (3, .ref (69)), (4, .ref (70))]) d_LA_law_646 (by decide) rfl ?_
    refine aw_aload_n d_LA_law_648 rfl 5 rfl ?_
    refine aw_callV (K' := k_MO_thrown) (As := []) (rest := []) (b := 57) d_LA_law_649 rfl rfl rfl cs_LA_71 rfl (Nat.le_of_ble_eq_true rfl) (Nat.le_of_ble_eq_true rfl) (by show n1 + 1 + 0 ≤ 601024; omega) (by show n2 + 6 + 0 ≤ 7293034; omega) (d' := 0) (w' := 0) (by decide) (by decide) ?_
    show AW _ _ _ _ _ _ _ [(0, .ref (57))] _ _ _ _ _
    refine aw_aload_n d_MO_thrown_0 rfl 0 rfl ?_
    refine aw_get (ic := 57) (ci := 6) (k := 0) d_MO_thrown_1 rfl rfl (by decide) rfl mw_775 rfl ?_
    refine aw_eqi (nI (1)) (sI_hit _ _ _ _) ?_
    refine aw_iret d_MO_thrown_4 rfl (by decide) (by decide) (ab_go1 ?_)
    refine aw_iload d_LA_law_652 1 rfl ?_
    refine aw_icmp_eqN (tgt := 659) d_LA_law_654 (by decide) (by omega) (by omega) (fun c1 => ?_) (fun c1 => ?_)
    · skip
      refine aw_iload d_LA_law_659 1 rfl ?_
      refine aw_if_neN (tgt := 676) d_LA_law_661 (by decide) (by omega) (fun c2 => ?_) (fun c2 => ?_)
      · skip
        refine aw_goto (tgt := 957) d_LA_law_676 (by decide) ?_
        refine aw_pick [2, 3, 4, 5, 6, 7] rfl ?_
        exact hK D T S R _ ⟨hI.1, CI_thr ci, RI_thr ri⟩
      · skip
        exact absurd c2 (by decide)
    · skip
      exfalso; omega
  · skip
    obtain ⟨k, hk, hx⟩ : ∃ k, k < rn R ∧ xs (i + 1) = nI k := ⟨(xs (i + 1)).toInt.toNat, by omega, i32_nat (by omega)⟩
    refine aw_aload_n d_LA_law_623 rfl 2 rfl ?_
    refine aw_aload_n d_LA_law_624 rfl 1 rfl ?_
    refine aw_iload d_LA_law_625 0 rfl ?_
    refine aw_iconst (v := nI 1) d_LA_law_627 (by decide) ?_
    refine aw_iaddN d_LA_law_628 ?_
    refine aw_sld d_LA_law_629 (pk_in (i + 1) L (by omega)) ?_
    refine aw_eqi (nI (k)) (by rw [nI_clamp (by omega), hx]) ?_
    refine aw_aload_n d_LA_law_630 rfl 4 rfl ?_
    refine aw_callSW (K' := k_LA_found) (As := [.ref (0), .int (nI (k)), .ref (69)]) (rest := []) d_LA_law_631 rfl (by decide) cs_LA_107 rfl (Nat.le_of_ble_eq_true rfl) (Nat.le_of_ble_eq_true rfl) (by show n1 + 1 ≤ 601024; omega) (by show n2 + 6 ≤ 7293034; omega) (d' := 7) (w' := 111) (by decide) (by decide) ?_
    show AW _ _ _ _ _ _ _ [(0, .ref (0)), (1, .int (nI (k))), (2, .ref (69))] _ _ _ _ _
    refine aw_aload_n d_LA_found_0 rfl 2 rfl ?_
    refine aw_iconst (v := nI 0) d_LA_found_1 (by decide) ?_
    refine aw_aload_n d_LA_found_2 rfl 0 rfl ?_
    refine aw_iload_n d_LA_found_3 rfl 1 rfl ?_
    refine aw_callVX (K' := k_BF_found) (As := [.int (nI (k))]) (rest := [.int (nI (0)), .ref (69)]) (b := 0) d_LA_found_4 rfl rfl rfl cs_LA_45 rfl (Nat.le_of_ble_eq_true rfl) (Nat.le_of_ble_eq_true rfl) (by decide) (by decide) (d' := 6) (w' := 90) (by decide) (by decide) ?_
    show AW _ _ _ _ _ _ _ [(0, .ref (0)), (1, .int (nI (k)))] _ _ _ _ _
    refine C_found hl wr.1 rc hk ?_
    refine ab_af1 ?_
    refine aw_i2l d_LA_found_7 ?_
    refine aw_lastN d_LA_found_8 rfl (by decide) (by omega) ?_
    refine aw_goto (tgt := 15) d_LA_found_9 (by decide) ?_
    refine aw_iconst (v := nI 0) d_LA_found_15 (by decide) ?_
    refine aw_iret d_LA_found_16 rfl (by decide) (by decide) (ab_go1 ?_)
    refine aw_istore (lv' := [(6, .int (nI (0))), (5, .int (nI (i))), (0, .ref (71)), (1, .ref (0)), (2, .ref (57)), (3, .ref (69)), (4, .ref (70))]) d_LA_law_634 (by decide) rfl ?_
    refine aw_aload_n d_LA_law_636 rfl 4 rfl ?_
    refine aw_aload_n d_LA_law_637 rfl 2 rfl ?_
    refine aw_iload d_LA_law_638 1 rfl ?_
    refine aw_iconst (v := nI 1) d_LA_law_640 (by decide) ?_
    refine aw_iaddN d_LA_law_641 ?_
    refine aw_sld d_LA_law_642 (pk_in (i + 1) L (by omega)) ?_
    refine aw_eqi (nI (k)) (by rw [nI_clamp (by omega), hx]) ?_
    refine aw_callV (K' := k_MO_found) (As := [.int (nI (k))]) (rest := []) (b := 57) d_LA_law_643 rfl rfl rfl cs_LA_109 rfl (Nat.le_of_ble_eq_true rfl) (Nat.le_of_ble_eq_true rfl) (by show n1 + 1 + 0 ≤ 601024; omega) (by show n2 + 6 + 0 ≤ 7293034; omega) (d' := 1) (w' := 22) (by decide) (by decide) ?_
    show AW _ _ _ _ _ _ _ [(0, .ref (57)), (1, .int (nI (k)))] _ _ _ _ _
    have r1 : RI D T S R (ab_sJ M (69) (0) (Int32.toInt64 (nI (rd R k)))) := RI_J ri
    refine R_found wr.1 r1.2.2.2 hk ?_
    refine ab_go1 ?_
    refine aw_istore (lv' := [(7, .int (nI (rd R k))), (6, .int (nI (0))), (5, .int (nI (i))), (0, .ref (71)), (1, .ref (0)), (2, .ref (57)), (3, .ref (69)), (4, .ref (70))]) d_LA_law_646 (by decide) rfl ?_
    refine aw_aload_n d_LA_law_648 rfl 5 rfl ?_
    refine aw_callV (K' := k_MO_thrown) (As := []) (rest := []) (b := 57) d_LA_law_649 rfl rfl rfl cs_LA_71 rfl (Nat.le_of_ble_eq_true rfl) (Nat.le_of_ble_eq_true rfl) (by show n1 + 1 + 0 ≤ 601024; omega) (by show n2 + 6 + 0 ≤ 7293034; omega) (d' := 0) (w' := 0) (by decide) (by decide) ?_
    show AW _ _ _ _ _ _ _ [(0, .ref (57))] _ _ _ _ _
    refine aw_aload_n d_MO_thrown_0 rfl 0 rfl ?_
    refine aw_get (ic := 57) (ci := 6) (k := 0) d_MO_thrown_1 rfl rfl (by decide) rfl mw_775 rfl ?_
    refine aw_eqi (nI (0)) (sI_hit _ _ _ _) ?_
    refine aw_iret d_MO_thrown_4 rfl (by decide) (by decide) (ab_go1 ?_)
    refine aw_iload d_LA_law_652 1 rfl ?_
    refine aw_icmp_eqN (tgt := 659) d_LA_law_654 (by decide) (by omega) (by omega) (fun c1 => ?_) (fun c1 => ?_)
    · skip
      refine aw_iload d_LA_law_659 1 rfl ?_
      refine aw_if_neN (tgt := 676) d_LA_law_661 (by decide) (by omega) (fun c2 => ?_) (fun c2 => ?_)
      · skip
        exact absurd c2 (by decide)
      · skip
        refine aw_aload_n d_LA_law_664 rfl 6 rfl ?_
        refine aw_iconst (v := nI 0) d_LA_law_665 (by decide) ?_
        refine aw_laldN d_LA_law_666 rfl (by decide) (by omega) ?_
        refine aw_eql (Int32.toInt64 (nI (rd R k))) (sJ_thr _ _ _) ?_
        refine aw_iload d_LA_law_667 0 rfl ?_
        refine aw_i2l d_LA_law_669 ?_
        refine aw_lcmp d_LA_law_670 ?_
        refine aw_eqi (nI (0)) (lg_self _) ?_
        refine aw_if_eqN (tgt := 676) d_LA_law_671 (by decide) (by omega) (fun c3 => ?_) (fun c3 => ?_)
        · skip
          refine aw_goto (tgt := 957) d_LA_law_676 (by decide) ?_
          refine aw_pick [2, 3, 4, 5, 6, 7] rfl ?_
          exact hK D T S R _ ⟨hI.1, CI_thr (CI_J ci), RI_thr r1⟩
        · skip
          exact absurd c3 (by decide)
    · skip
      exfalso; omega
set_option maxRecDepth 8000 in
theorem LC_score {l : Launch} {b L : Nat} {xs : Nat → Int32} {M : ab_M} {Q : ab_O → ab_M → Prop} {n1 n2 : Nat} (hl : l.stackTraces = false) {D : Dg} {T : Qg} {S : Sg} {R : Rg} (hI : INV D T S R M) {i : Nat} (hi : i + 4 ≤ L) (hL : L ≤ 2048) (hn1 : n1 + 1 ≤ 601024) (hn2 : n2 + 6 ≤ 7293034) (hK : ∀ (D : Dg) (T : Qg) (S : Sg) (R : Rg) (M' : ab_M), INV D T S R M' → AW sys l (ab_Zs9 sys 71 b L xs) k_LA_law 9 207 957 [(5, .int (nI (i))), (0, .ref (71)), (1, .ref (0)), (2, .ref (57)), (3, .ref (69)), (4, .ref (70))] [] M' (n1 + 1) (n2 + 6) Q) : AW sys l (ab_Zs9 sys 71 b L xs) k_LA_law 9 207 679 [(5, .int (nI (i))), (0, .ref (71)), (1, .ref (0)), (2, .ref (57)), (3, .ref (69)), (4, .ref (70))] [] M n1 n2 Q := by
  obtain ⟨⟨wd, wq, ws, wr⟩, ci, ri⟩ := id hI
  obtain ⟨dc, qc, sc, rc⟩ := id ci
  obtain ⟨dr, qr, sr, rr⟩ := id ri
  by_cases hb : (xs (i + 1)).toInt < 0 ∨ (rn R : Int) ≤ (xs (i + 1)).toInt
  · skip
    refine aw_aload_n d_LA_law_679 rfl 2 rfl ?_
    refine aw_aload_n d_LA_law_680 rfl 1 rfl ?_
    refine aw_iload d_LA_law_681 0 rfl ?_
    refine aw_iconst (v := nI 1) d_LA_law_683 (by decide) ?_
    refine aw_iaddN d_LA_law_684 ?_
    refine aw_sld d_LA_law_685 (pk_in (i + 1) L (by omega)) ?_
    refine aw_eqi (xs (i + 1)) (by rw [nI_clamp (by omega)]) ?_
    refine aw_aload d_LA_law_686 5 rfl ?_
    refine aw_callSW (K' := k_LA_score) (As := [.ref (0), .int (xs (i + 1)), .ref (70)]) (rest := []) d_LA_law_688 rfl (by decide) cs_LA_110 rfl (Nat.le_of_ble_eq_true rfl) (Nat.le_of_ble_eq_true rfl) (by show n1 + 1 ≤ 601024; omega) (by show n2 + 6 ≤ 7293034; omega) (d' := 7) (w' := 111) (by decide) (by decide) ?_
    show AW _ _ _ _ _ _ _ [(0, .ref (0)), (1, .int (xs (i + 1))), (2, .ref (70))] _ _ _ _ _
    refine aw_aload_n d_LA_score_0 rfl 2 rfl ?_
    refine aw_iconst (v := nI 0) d_LA_score_1 (by decide) ?_
    refine aw_aload_n d_LA_score_2 rfl 0 rfl ?_
    refine aw_iload_n d_LA_score_3 rfl 1 rfl ?_
    refine aw_callVX (K' := k_BF_score) (As := [.int (xs (i + 1))]) (rest := [.int (nI (0)), .ref (70)]) (b := 0) d_LA_score_4 rfl rfl rfl cs_LA_48 rfl (Nat.le_of_ble_eq_true rfl) (Nat.le_of_ble_eq_true rfl) (by decide) (by decide) (d' := 6) (w' := 90) (by decide) (by decide) ?_
    show AW _ _ _ _ _ _ _ [(0, .ref (0)), (1, .int (xs (i + 1)))] _ _ _ _ _
    refine C_score_bad hl wr.1 rc hb ?_
    refine ab_afx1 (k := 3) ct_score_IOO (by decide) d_LA_score_11 rfl ?_
    show AW _ _ _ _ _ _ 12 [(0, .ref (0)), (1, .int (xs (i + 1))), (2, .ref (70))] _ _ _ _ _
    refine aw_iconst (v := nI 1) d_LA_score_12 (by decide) ?_
    refine aw_iret d_LA_score_13 rfl (by decide) (by decide) (ab_go1 ?_)
    refine aw_istore (lv' := [(6, .int (nI (1))), (5, .int (nI (i))), (0, .ref (71)), (1, .ref (0)), (2, .ref (57)), (3, .ref (69)), (4, .ref (70))]) d_LA_law_691 (by decide) rfl ?_
    refine aw_aload_n d_LA_law_693 rfl 4 rfl ?_
    refine aw_aload_n d_LA_law_694 rfl 2 rfl ?_
    refine aw_iload d_LA_law_695 1 rfl ?_
    refine aw_iconst (v := nI 1) d_LA_law_697 (by decide) ?_
    refine aw_iaddN d_LA_law_698 ?_
    refine aw_sld d_LA_law_699 (pk_in (i + 1) L (by omega)) ?_
    refine aw_eqi (xs (i + 1)) (by rw [nI_clamp (by omega)]) ?_
    refine aw_callV (K' := k_MO_score) (As := [.int (xs (i + 1))]) (rest := []) (b := 57) d_LA_law_700 rfl rfl rfl cs_LA_112 rfl (Nat.le_of_ble_eq_true rfl) (Nat.le_of_ble_eq_true rfl) (by show n1 + 1 + 0 ≤ 601024; omega) (by show n2 + 6 + 0 ≤ 7293034; omega) (d' := 1) (w' := 22) (by decide) (by decide) ?_
    show AW _ _ _ _ _ _ _ [(0, .ref (57)), (1, .int (xs (i + 1)))] _ _ _ _ _
    refine R_score_bad wr.1 rr hb ?_
    refine ab_go1 ?_
    refine aw_dstore (lv' := [(7, .double (FP.i2d (nI 0))), (6, .int (nI (1))), (5, .int (nI (i))), (0, .ref (71)), (1, .ref (0)), (2, .ref (57)), (3, .ref (69)), (4, .ref (70))]) d_LA_law_703 (by decide) rfl ?_
    refine aw_aload_n d_LA_law_705 rfl 5 rfl ?_
    refine aw_callV (K' := k_MO_thrown) (As := []) (rest := []) (b := 57) d_LA_law_706 rfl rfl rfl cs_LA_71 rfl (Nat.le_of_ble_eq_true rfl) (Nat.le_of_ble_eq_true rfl) (by show n1 + 1 + 0 ≤ 601024; omega) (by show n2 + 6 + 0 ≤ 7293034; omega) (d' := 0) (w' := 0) (by decide) (by decide) ?_
    show AW _ _ _ _ _ _ _ [(0, .ref (57))] _ _ _ _ _
    refine aw_aload_n d_MO_thrown_0 rfl 0 rfl ?_
    refine aw_get (ic := 57) (ci := 6) (k := 0) d_MO_thrown_1 rfl rfl (by decide) rfl mw_775 rfl ?_
    refine aw_eqi (nI (1)) (sI_hit _ _ _ _) ?_
    refine aw_iret d_MO_thrown_4 rfl (by decide) (by decide) (ab_go1 ?_)
    refine aw_iload d_LA_law_709 1 rfl ?_
    refine aw_icmp_eqN (tgt := 716) d_LA_law_711 (by decide) (by omega) (by omega) (fun c1 => ?_) (fun c1 => ?_)
    · skip
      refine aw_iload d_LA_law_716 1 rfl ?_
      refine aw_if_neN (tgt := 753) d_LA_law_718 (by decide) (by omega) (fun c2 => ?_) (fun c2 => ?_)
      · skip
        refine aw_goto (tgt := 957) d_LA_law_753 (by decide) ?_
        refine aw_pick [2, 3, 4, 5, 6, 7] rfl ?_
        exact hK D T S R _ ⟨hI.1, CI_thr ci, RI_thr ri⟩
      · skip
        exact absurd c2 (by decide)
    · skip
      exfalso; omega
  · skip
    obtain ⟨k, hk, hx⟩ : ∃ k, k < rn R ∧ xs (i + 1) = nI k := ⟨(xs (i + 1)).toInt.toNat, by omega, i32_nat (by omega)⟩
    refine aw_aload_n d_LA_law_679 rfl 2 rfl ?_
    refine aw_aload_n d_LA_law_680 rfl 1 rfl ?_
    refine aw_iload d_LA_law_681 0 rfl ?_
    refine aw_iconst (v := nI 1) d_LA_law_683 (by decide) ?_
    refine aw_iaddN d_LA_law_684 ?_
    refine aw_sld d_LA_law_685 (pk_in (i + 1) L (by omega)) ?_
    refine aw_eqi (nI (k)) (by rw [nI_clamp (by omega), hx]) ?_
    refine aw_aload d_LA_law_686 5 rfl ?_
    refine aw_callSW (K' := k_LA_score) (As := [.ref (0), .int (nI (k)), .ref (70)]) (rest := []) d_LA_law_688 rfl (by decide) cs_LA_110 rfl (Nat.le_of_ble_eq_true rfl) (Nat.le_of_ble_eq_true rfl) (by show n1 + 1 ≤ 601024; omega) (by show n2 + 6 ≤ 7293034; omega) (d' := 7) (w' := 111) (by decide) (by decide) ?_
    show AW _ _ _ _ _ _ _ [(0, .ref (0)), (1, .int (nI (k))), (2, .ref (70))] _ _ _ _ _
    refine aw_aload_n d_LA_score_0 rfl 2 rfl ?_
    refine aw_iconst (v := nI 0) d_LA_score_1 (by decide) ?_
    refine aw_aload_n d_LA_score_2 rfl 0 rfl ?_
    refine aw_iload_n d_LA_score_3 rfl 1 rfl ?_
    refine aw_callVX (K' := k_BF_score) (As := [.int (nI (k))]) (rest := [.int (nI (0)), .ref (70)]) (b := 0) d_LA_score_4 rfl rfl rfl cs_LA_48 rfl (Nat.le_of_ble_eq_true rfl) (Nat.le_of_ble_eq_true rfl) (by decide) (by decide) (d' := 6) (w' := 90) (by decide) (by decide) ?_
    show AW _ _ _ _ _ _ _ [(0, .ref (0)), (1, .int (nI (k)))] _ _ _ _ _
    refine C_score hl wr.1 rc hk ?_
    refine ab_af1 ?_
    refine aw_dastN d_LA_score_7 rfl (by decide) (by omega) ?_
    refine aw_goto (tgt := 14) d_LA_score_8 (by decide) ?_
    refine aw_iconst (v := nI 0) d_LA_score_14 (by decide) ?_
    refine aw_iret d_LA_score_15 rfl (by decide) (by decide) (ab_go1 ?_)
    refine aw_istore (lv' := [(6, .int (nI (0))), (5, .int (nI (i))), (0, .ref (71)), (1, .ref (0)), (2, .ref (57)), (3, .ref (69)), (4, .ref (70))]) d_LA_law_691 (by decide) rfl ?_
    refine aw_aload_n d_LA_law_693 rfl 4 rfl ?_
    refine aw_aload_n d_LA_law_694 rfl 2 rfl ?_
    refine aw_iload d_LA_law_695 1 rfl ?_
    refine aw_iconst (v := nI 1) d_LA_law_697 (by decide) ?_
    refine aw_iaddN d_LA_law_698 ?_
    refine aw_sld d_LA_law_699 (pk_in (i + 1) L (by omega)) ?_
    refine aw_eqi (nI (k)) (by rw [nI_clamp (by omega), hx]) ?_
    refine aw_callV (K' := k_MO_score) (As := [.int (nI (k))]) (rest := []) (b := 57) d_LA_law_700 rfl rfl rfl cs_LA_112 rfl (Nat.le_of_ble_eq_true rfl) (Nat.le_of_ble_eq_true rfl) (by show n1 + 1 + 0 ≤ 601024; omega) (by show n2 + 6 + 0 ≤ 7293034; omega) (d' := 1) (w' := 22) (by decide) (by decide) ?_
    show AW _ _ _ _ _ _ _ [(0, .ref (57)), (1, .int (nI (k)))] _ _ _ _ _
    have r1 : RI D T S R (ab_sD M (70) (0) (rb R k)) := RI_D ri
    refine R_score wr.1 r1.2.2.2 hk ?_
    refine ab_go1 ?_
    refine aw_dstore (lv' := [(7, .double (rb R k)), (6, .int (nI (0))), (5, .int (nI (i))), (0, .ref (71)), (1, .ref (0)), (2, .ref (57)), (3, .ref (69)), (4, .ref (70))]) d_LA_law_703 (by decide) rfl ?_
    refine aw_aload_n d_LA_law_705 rfl 5 rfl ?_
    refine aw_callV (K' := k_MO_thrown) (As := []) (rest := []) (b := 57) d_LA_law_706 rfl rfl rfl cs_LA_71 rfl (Nat.le_of_ble_eq_true rfl) (Nat.le_of_ble_eq_true rfl) (by show n1 + 1 + 0 ≤ 601024; omega) (by show n2 + 6 + 0 ≤ 7293034; omega) (d' := 0) (w' := 0) (by decide) (by decide) ?_
    show AW _ _ _ _ _ _ _ [(0, .ref (57))] _ _ _ _ _
    refine aw_aload_n d_MO_thrown_0 rfl 0 rfl ?_
    refine aw_get (ic := 57) (ci := 6) (k := 0) d_MO_thrown_1 rfl rfl (by decide) rfl mw_775 rfl ?_
    refine aw_eqi (nI (0)) (sI_hit _ _ _ _) ?_
    refine aw_iret d_MO_thrown_4 rfl (by decide) (by decide) (ab_go1 ?_)
    refine aw_iload d_LA_law_709 1 rfl ?_
    refine aw_icmp_eqN (tgt := 716) d_LA_law_711 (by decide) (by omega) (by omega) (fun c1 => ?_) (fun c1 => ?_)
    · skip
      refine aw_iload d_LA_law_716 1 rfl ?_
      refine aw_if_neN (tgt := 753) d_LA_law_718 (by decide) (by omega) (fun c2 => ?_) (fun c2 => ?_)
      · skip
        exact absurd c2 (by decide)
      · skip
        refine aw_aload d_LA_law_721 7 rfl ?_
        refine aw_iconst (v := nI 0) d_LA_law_723 (by decide) ?_
        refine aw_daldN d_LA_law_724 rfl (by decide) (by omega) ?_
        refine aw_eqd (rb R k) (sD_hit _ _ _ _) ?_
        refine aw_dload d_LA_law_725 0 rfl ?_
        refine aw_dcmp d_LA_law_727 ?_
        refine ad_eq (wr.2.2 k hk).2.2.1.n (wr.2.2 k hk).2.2.1.n d_LA_law_728 (tgt := 753) (by decide) (fun c3 => ?_) (fun c3 => ?_)
        · skip
          refine aw_goto (tgt := 957) d_LA_law_753 (by decide) ?_
          refine aw_pick [2, 3, 4, 5, 6, 7] rfl ?_
          exact hK D T S R _ ⟨hI.1, CI_thr (CI_D ci), RI_thr r1⟩
        · skip
          exact absurd rfl c3
    · skip
      exfalso; omega
set_option maxRecDepth 8000 in
theorem LC_model {l : Launch} {b L : Nat} {xs : Nat → Int32} {M : ab_M} {Q : ab_O → ab_M → Prop} {n1 n2 : Nat} (hl : l.stackTraces = false) {D : Dg} {T : Qg} {S : Sg} {R : Rg} (hI : INV D T S R M) {i : Nat} (hi : i + 4 ≤ L) (hL : L ≤ 2048) (hn1 : n1 + 1 ≤ 601024) (hn2 : n2 + 6 ≤ 7293034) (hK : ∀ (D : Dg) (T : Qg) (S : Sg) (R : Rg) (M' : ab_M), INV D T S R M' → AW sys l (ab_Zs9 sys 71 b L xs) k_LA_law 9 207 957 [(5, .int (nI (i))), (0, .ref (71)), (1, .ref (0)), (2, .ref (57)), (3, .ref (69)), (4, .ref (70))] [] M' (n1 + 1) (n2 + 6) Q) : AW sys l (ab_Zs9 sys 71 b L xs) k_LA_law 9 207 756 [(5, .int (nI (i))), (0, .ref (71)), (1, .ref (0)), (2, .ref (57)), (3, .ref (69)), (4, .ref (70))] [] M n1 n2 Q := by
  obtain ⟨⟨wd, wq, ws, wr⟩, ci, ri⟩ := id hI
  obtain ⟨dc, qc, sc, rc⟩ := id ci
  obtain ⟨dr, qr, sr, rr⟩ := id ri
  by_cases hb : (xs (i + 1)).toInt < 1 ∨ 4 < (xs (i + 1)).toInt
  · skip
    refine aw_aload_n d_LA_law_756 rfl 2 rfl ?_
    refine aw_aload_n d_LA_law_757 rfl 1 rfl ?_
    refine aw_iload d_LA_law_758 0 rfl ?_
    refine aw_iconst (v := nI 1) d_LA_law_760 (by decide) ?_
    refine aw_iaddN d_LA_law_761 ?_
    refine aw_sld d_LA_law_762 (pk_in (i + 1) L (by omega)) ?_
    refine aw_eqi (xs (i + 1)) (by rw [nI_clamp (by omega)]) ?_
    refine aw_aload_n d_LA_law_763 rfl 4 rfl ?_
    refine aw_callSW (K' := k_LA_model) (As := [.ref (0), .int (xs (i + 1)), .ref (69)]) (rest := []) d_LA_law_764 rfl (by decide) cs_LA_113 rfl (Nat.le_of_ble_eq_true rfl) (Nat.le_of_ble_eq_true rfl) (by show n1 + 1 ≤ 601024; omega) (by show n2 + 6 ≤ 7293034; omega) (d' := 7) (w' := 113) (by decide) (by decide) ?_
    show AW _ _ _ _ _ _ _ [(0, .ref (0)), (1, .int (xs (i + 1))), (2, .ref (69))] _ _ _ _ _
    refine aw_aload_n d_LA_model_0 rfl 2 rfl ?_
    refine aw_iconst (v := nI 0) d_LA_model_1 (by decide) ?_
    refine aw_aload_n d_LA_model_2 rfl 0 rfl ?_
    refine aw_iload_n d_LA_model_3 rfl 1 rfl ?_
    refine aw_callVX (K' := k_BF_model) (As := [.int (xs (i + 1))]) (rest := [.int (nI (0)), .ref (69)]) (b := 0) d_LA_model_4 rfl rfl rfl cs_LA_51 rfl (Nat.le_of_ble_eq_true rfl) (Nat.le_of_ble_eq_true rfl) (by decide) (by decide) (d' := 6) (w' := 92) (by decide) (by decide) ?_
    show AW _ _ _ _ _ _ _ [(0, .ref (0)), (1, .int (xs (i + 1)))] _ _ _ _ _
    refine C_model_bad hl hb ?_
    refine ab_afx1 (k := 3) ct_model_IAE (by decide) d_LA_model_12 rfl ?_
    show AW _ _ _ _ _ _ 13 [(0, .ref (0)), (1, .int (xs (i + 1))), (2, .ref (69))] _ _ _ _ _
    refine aw_iconst (v := nI 1) d_LA_model_13 (by decide) ?_
    refine aw_iret d_LA_model_14 rfl (by decide) (by decide) (ab_go1 ?_)
    refine aw_istore (lv' := [(6, .int (nI (1))), (5, .int (nI (i))), (0, .ref (71)), (1, .ref (0)), (2, .ref (57)), (3, .ref (69)), (4, .ref (70))]) d_LA_law_767 (by decide) rfl ?_
    refine aw_aload_n d_LA_law_769 rfl 4 rfl ?_
    refine aw_aload_n d_LA_law_770 rfl 2 rfl ?_
    refine aw_iload d_LA_law_771 1 rfl ?_
    refine aw_iconst (v := nI 1) d_LA_law_773 (by decide) ?_
    refine aw_iaddN d_LA_law_774 ?_
    refine aw_sld d_LA_law_775 (pk_in (i + 1) L (by omega)) ?_
    refine aw_eqi (xs (i + 1)) (by rw [nI_clamp (by omega)]) ?_
    refine aw_callV (K' := k_MO_model) (As := [.int (xs (i + 1))]) (rest := []) (b := 57) d_LA_law_776 rfl rfl rfl cs_LA_115 rfl (Nat.le_of_ble_eq_true rfl) (Nat.le_of_ble_eq_true rfl) (by show n1 + 1 + 0 ≤ 601024; omega) (by show n2 + 6 + 0 ≤ 7293034; omega) (d' := 2) (w' := 48) (by decide) (by decide) ?_
    show AW _ _ _ _ _ _ _ [(0, .ref (57)), (1, .int (xs (i + 1)))] _ _ _ _ _
    refine R_model_bad hb ?_
    refine ab_go1 ?_
    refine aw_istore (lv' := [(7, .int (nI (0))), (6, .int (nI (1))), (5, .int (nI (i))), (0, .ref (71)), (1, .ref (0)), (2, .ref (57)), (3, .ref (69)), (4, .ref (70))]) d_LA_law_779 (by decide) rfl ?_
    refine aw_aload_n d_LA_law_781 rfl 5 rfl ?_
    refine aw_callV (K' := k_MO_thrown) (As := []) (rest := []) (b := 57) d_LA_law_782 rfl rfl rfl cs_LA_71 rfl (Nat.le_of_ble_eq_true rfl) (Nat.le_of_ble_eq_true rfl) (by show n1 + 1 + 0 ≤ 601024; omega) (by show n2 + 6 + 0 ≤ 7293034; omega) (d' := 0) (w' := 0) (by decide) (by decide) ?_
    show AW _ _ _ _ _ _ _ [(0, .ref (57))] _ _ _ _ _
    refine aw_aload_n d_MO_thrown_0 rfl 0 rfl ?_
    refine aw_get (ic := 57) (ci := 6) (k := 0) d_MO_thrown_1 rfl rfl (by decide) rfl mw_775 rfl ?_
    refine aw_eqi (nI (1)) (sI_hit _ _ _ _) ?_
    refine aw_iret d_MO_thrown_4 rfl (by decide) (by decide) (ab_go1 ?_)
    refine aw_iload d_LA_law_785 1 rfl ?_
    refine aw_icmp_eqN (tgt := 792) d_LA_law_787 (by decide) (by omega) (by omega) (fun c1 => ?_) (fun c1 => ?_)
    · skip
      refine aw_iload d_LA_law_792 1 rfl ?_
      refine aw_if_neN (tgt := 809) d_LA_law_794 (by decide) (by omega) (fun c2 => ?_) (fun c2 => ?_)
      · skip
        refine aw_goto (tgt := 957) d_LA_law_809 (by decide) ?_
        refine aw_pick [2, 3, 4, 5, 6, 7] rfl ?_
        exact hK D T S R _ ⟨hI.1, CI_thr ci, RI_thr ri⟩
      · skip
        exact absurd c2 (by decide)
    · skip
      exfalso; omega
  · skip
    obtain ⟨n, h1, h4, hx⟩ : ∃ n, 1 ≤ n ∧ n ≤ 4 ∧ xs (i + 1) = nI n := ⟨(xs (i + 1)).toInt.toNat, by omega, by omega, i32_nat (by omega)⟩
    refine aw_aload_n d_LA_law_756 rfl 2 rfl ?_
    refine aw_aload_n d_LA_law_757 rfl 1 rfl ?_
    refine aw_iload d_LA_law_758 0 rfl ?_
    refine aw_iconst (v := nI 1) d_LA_law_760 (by decide) ?_
    refine aw_iaddN d_LA_law_761 ?_
    refine aw_sld d_LA_law_762 (pk_in (i + 1) L (by omega)) ?_
    refine aw_eqi (nI (n)) (by rw [nI_clamp (by omega), hx]) ?_
    refine aw_aload_n d_LA_law_763 rfl 4 rfl ?_
    refine aw_callSW (K' := k_LA_model) (As := [.ref (0), .int (nI (n)), .ref (69)]) (rest := []) d_LA_law_764 rfl (by decide) cs_LA_113 rfl (Nat.le_of_ble_eq_true rfl) (Nat.le_of_ble_eq_true rfl) (by show n1 + 1 ≤ 601024; omega) (by show n2 + 6 ≤ 7293034; omega) (d' := 7) (w' := 113) (by decide) (by decide) ?_
    show AW _ _ _ _ _ _ _ [(0, .ref (0)), (1, .int (nI (n))), (2, .ref (69))] _ _ _ _ _
    refine aw_aload_n d_LA_model_0 rfl 2 rfl ?_
    refine aw_iconst (v := nI 0) d_LA_model_1 (by decide) ?_
    refine aw_aload_n d_LA_model_2 rfl 0 rfl ?_
    refine aw_iload_n d_LA_model_3 rfl 1 rfl ?_
    refine aw_callVX (K' := k_BF_model) (As := [.int (nI (n))]) (rest := [.int (nI (0)), .ref (69)]) (b := 0) d_LA_model_4 rfl rfl rfl cs_LA_51 rfl (Nat.le_of_ble_eq_true rfl) (Nat.le_of_ble_eq_true rfl) (by decide) (by decide) (d' := 6) (w' := 92) (by decide) (by decide) ?_
    show AW _ _ _ _ _ _ _ [(0, .ref (0)), (1, .int (nI (n)))] _ _ _ _ _
    refine C_model hl wd dc wr rc h1 h4 (fun hF => ?_) (fun g1 M1 q1 f1 => ?_) (T := T)
    · skip
      refine ab_afx1 (k := 3) ct_model_ISE (by decide) d_LA_model_15 rfl ?_
      show AW _ _ _ _ _ _ 16 [(0, .ref (0)), (1, .int (nI (n))), (2, .ref (69))] _ _ _ _ _
      refine aw_iconst (v := nI 2) d_LA_model_16 (by decide) ?_
      refine aw_iret d_LA_model_17 rfl (by decide) (by decide) (ab_go1 ?_)
      refine aw_istore (lv' := [(6, .int (nI (2))), (5, .int (nI (i))), (0, .ref (71)), (1, .ref (0)), (2, .ref (57)), (3, .ref (69)), (4, .ref (70))]) d_LA_law_767 (by decide) rfl ?_
      refine aw_aload_n d_LA_law_769 rfl 4 rfl ?_
      refine aw_aload_n d_LA_law_770 rfl 2 rfl ?_
      refine aw_iload d_LA_law_771 1 rfl ?_
      refine aw_iconst (v := nI 1) d_LA_law_773 (by decide) ?_
      refine aw_iaddN d_LA_law_774 ?_
      refine aw_sld d_LA_law_775 (pk_in (i + 1) L (by omega)) ?_
      refine aw_eqi (nI (n)) (by rw [nI_clamp (by omega), hx]) ?_
      refine aw_callV (K' := k_MO_model) (As := [.int (nI (n))]) (rest := []) (b := 57) d_LA_law_776 rfl rfl rfl cs_LA_115 rfl (Nat.le_of_ble_eq_true rfl) (Nat.le_of_ble_eq_true rfl) (by show n1 + 1 + 0 ≤ 601024; omega) (by show n2 + 6 + 0 ≤ 7293034; omega) (d' := 2) (w' := 48) (by decide) (by decide) ?_
      show AW _ _ _ _ _ _ _ [(0, .ref (57)), (1, .int (nI (n)))] _ _ _ _ _
      refine R_model wd dr wr rr sr h1 h4 (fun _ => ?_) (fun h => absurd h (by omega)) (T := T)
      refine ab_go1 ?_
      refine aw_istore (lv' := [(7, .int (nI (0))), (6, .int (nI (2))), (5, .int (nI (i))), (0, .ref (71)), (1, .ref (0)), (2, .ref (57)), (3, .ref (69)), (4, .ref (70))]) d_LA_law_779 (by decide) rfl ?_
      refine aw_aload_n d_LA_law_781 rfl 5 rfl ?_
      refine aw_callV (K' := k_MO_thrown) (As := []) (rest := []) (b := 57) d_LA_law_782 rfl rfl rfl cs_LA_71 rfl (Nat.le_of_ble_eq_true rfl) (Nat.le_of_ble_eq_true rfl) (by show n1 + 1 + 0 ≤ 601024; omega) (by show n2 + 6 + 0 ≤ 7293034; omega) (d' := 0) (w' := 0) (by decide) (by decide) ?_
      show AW _ _ _ _ _ _ _ [(0, .ref (57))] _ _ _ _ _
      refine aw_aload_n d_MO_thrown_0 rfl 0 rfl ?_
      refine aw_get (ic := 57) (ci := 6) (k := 0) d_MO_thrown_1 rfl rfl (by decide) rfl mw_775 rfl ?_
      refine aw_eqi (nI (2)) (sI_hit _ _ _ _) ?_
      refine aw_iret d_MO_thrown_4 rfl (by decide) (by decide) (ab_go1 ?_)
      refine aw_iload d_LA_law_785 1 rfl ?_
      refine aw_icmp_eqN (tgt := 792) d_LA_law_787 (by decide) (by omega) (by omega) (fun c1 => ?_) (fun c1 => ?_)
      · skip
        refine aw_iload d_LA_law_792 1 rfl ?_
        refine aw_if_neN (tgt := 809) d_LA_law_794 (by decide) (by omega) (fun c2 => ?_) (fun c2 => ?_)
        · skip
          refine aw_goto (tgt := 957) d_LA_law_809 (by decide) ?_
          refine aw_pick [2, 3, 4, 5, 6, 7] rfl ?_
          exact hK D T S R _ ⟨hI.1, CI_thr ci, RI_thr ri⟩
        · skip
          exact absurd c2 (by decide)
      · skip
        exfalso; omega
    · skip
      refine ab_af1 ?_
      refine aw_i2l d_LA_model_7 ?_
      refine aw_lastN d_LA_model_8 rfl (by decide) (by omega) ?_
      refine aw_goto (tgt := 18) d_LA_model_9 (by decide) ?_
      refine aw_iconst (v := nI 0) d_LA_model_18 (by decide) ?_
      refine aw_iret d_LA_model_19 rfl (by decide) (by decide) (ab_go1 ?_)
      refine aw_istore (lv' := [(6, .int (nI (0))), (5, .int (nI (i))), (0, .ref (71)), (1, .ref (0)), (2, .ref (57)), (3, .ref (69)), (4, .ref (70))]) d_LA_law_767 (by decide) rfl ?_
      refine aw_aload_n d_LA_law_769 rfl 4 rfl ?_
      refine aw_aload_n d_LA_law_770 rfl 2 rfl ?_
      refine aw_iload d_LA_law_771 1 rfl ?_
      refine aw_iconst (v := nI 1) d_LA_law_773 (by decide) ?_
      refine aw_iaddN d_LA_law_774 ?_
      refine aw_sld d_LA_law_775 (pk_in (i + 1) L (by omega)) ?_
      refine aw_eqi (nI (n)) (by rw [nI_clamp (by omega), hx]) ?_
      refine aw_callV (K' := k_MO_model) (As := [.int (nI (n))]) (rest := []) (b := 57) d_LA_law_776 rfl rfl rfl cs_LA_115 rfl (Nat.le_of_ble_eq_true rfl) (Nat.le_of_ble_eq_true rfl) (by show n1 + 1 + 0 ≤ 601024; omega) (by show n2 + 6 + 0 ≤ 7293034; omega) (d' := 2) (w' := 48) (by decide) (by decide) ?_
      show AW _ _ _ _ _ _ _ [(0, .ref (57)), (1, .int (nI (n)))] _ _ _ _ _
      have c1 := tokC_ok ci q1 f1
      have r1 : RI D T S R (ab_sJ M1 (69) (0) (Int32.toInt64 (nI (qn (mdT T (tkN D R n)))))) := RI_J (RI_frR ri c1.2)
      refine R_model wd r1.1 wr r1.2.2.2 r1.2.2.1 h1 h4 (fun h => absurd h (by omega)) (fun _ M2 q2 k2 => ?_) (T := T)
      refine ab_go1 ?_
      refine aw_istore (lv' := [(7, .int (nI (qn (mdT T (tkN D R n))))), (6, .int (nI (0))), (5, .int (nI (i))), (0, .ref (71)), (1, .ref (0)), (2, .ref (57)), (3, .ref (69)), (4, .ref (70))]) d_LA_law_779 (by decide) rfl ?_
      refine aw_aload_n d_LA_law_781 rfl 5 rfl ?_
      refine aw_callV (K' := k_MO_thrown) (As := []) (rest := []) (b := 57) d_LA_law_782 rfl rfl rfl cs_LA_71 rfl (Nat.le_of_ble_eq_true rfl) (Nat.le_of_ble_eq_true rfl) (by show n1 + 1 + 0 ≤ 601024; omega) (by show n2 + 6 + 0 ≤ 7293034; omega) (d' := 0) (w' := 0) (by decide) (by decide) ?_
      show AW _ _ _ _ _ _ _ [(0, .ref (57))] _ _ _ _ _
      refine aw_aload_n d_MO_thrown_0 rfl 0 rfl ?_
      refine aw_get (ic := 57) (ci := 6) (k := 0) d_MO_thrown_1 rfl rfl (by decide) rfl mw_775 rfl ?_
      refine aw_eqi (nI (0)) k2.2.2.2.2 ?_
      refine aw_iret d_MO_thrown_4 rfl (by decide) (by decide) (ab_go1 ?_)
      refine aw_iload d_LA_law_785 1 rfl ?_
      refine aw_icmp_eqN (tgt := 792) d_LA_law_787 (by decide) (by omega) (by omega) (fun c3 => ?_) (fun c3 => ?_)
      · skip
        refine aw_iload d_LA_law_792 1 rfl ?_
        refine aw_if_neN (tgt := 809) d_LA_law_794 (by decide) (by omega) (fun c4 => ?_) (fun c4 => ?_)
        · skip
          exact absurd c4 (by decide)
        · skip
          refine aw_aload_n d_LA_law_797 rfl 6 rfl ?_
          refine aw_iconst (v := nI 0) d_LA_law_798 (by decide) ?_
          refine aw_laldN d_LA_law_799 rfl (by decide) (by omega) ?_
          refine aw_eql (Int32.toInt64 (nI (qn (mdT T (tkN D R n))))) ((k2.2.2.2.1 69 0 (by omega)).2.2.trans (sJ_hit _ _ _ _)) ?_
          refine aw_iload d_LA_law_800 0 rfl ?_
          refine aw_i2l d_LA_law_802 ?_
          refine aw_lcmp d_LA_law_803 ?_
          refine aw_eqi (nI (0)) (lg_self _) ?_
          refine aw_if_eqN (tgt := 809) d_LA_law_804 (by decide) (by omega) (fun c5 => ?_) (fun c5 => ?_)
          · skip
            refine aw_goto (tgt := 957) d_LA_law_809 (by decide) ?_
            refine aw_pick [2, 3, 4, 5, 6, 7] rfl ?_
            exact hK D (mdT T (tkN D R n)) S R M2 ⟨⟨wd, (mdT_ok wd wr (tkN_ok D R n).1 (Nat.le_trans (tkN_ok D R n).2 h4)).1, ws, wr⟩, CI_frC (CI_J c1.1) k2.2.2.2.1, k2.1, q2, k2.2.1, k2.2.2.1⟩
          · skip
            exact absurd c5 (by decide)
      · skip
        exfalso; omega
set_option maxRecDepth 8000 in
theorem LC_told {l : Launch} {b L : Nat} {xs : Nat → Int32} {M : ab_M} {Q : ab_O → ab_M → Prop} {n1 n2 : Nat} (hl : l.stackTraces = false) {D : Dg} {T : Qg} {S : Sg} {R : Rg} (hI : INV D T S R M) {i : Nat} (hi : i + 4 ≤ L) (hL : L ≤ 2048) (hn1 : n1 + 1 ≤ 601024) (hn2 : n2 + 6 ≤ 7293034) (hK : ∀ (D : Dg) (T : Qg) (S : Sg) (R : Rg) (M' : ab_M), INV D T S R M' → AW sys l (ab_Zs9 sys 71 b L xs) k_LA_law 9 207 957 [(5, .int (nI (i))), (0, .ref (71)), (1, .ref (0)), (2, .ref (57)), (3, .ref (69)), (4, .ref (70))] [] M' (n1 + 1) (n2 + 6) Q) : AW sys l (ab_Zs9 sys 71 b L xs) k_LA_law 9 207 812 [(5, .int (nI (i))), (0, .ref (71)), (1, .ref (0)), (2, .ref (57)), (3, .ref (69)), (4, .ref (70))] [] M n1 n2 Q := by
  obtain ⟨⟨wd, wq, ws, wr⟩, ci, ri⟩ := id hI
  obtain ⟨dc, qc, sc, rc⟩ := id ci
  obtain ⟨dr, qr, sr, rr⟩ := id ri
  by_cases hb : (xs (i + 1)).toInt < 0 ∨ (qn T : Int) ≤ (xs (i + 1)).toInt
  · skip
    refine aw_aload_n d_LA_law_812 rfl 2 rfl ?_
    refine aw_aload_n d_LA_law_813 rfl 1 rfl ?_
    refine aw_iload d_LA_law_814 0 rfl ?_
    refine aw_iconst (v := nI 1) d_LA_law_816 (by decide) ?_
    refine aw_iaddN d_LA_law_817 ?_
    refine aw_sld d_LA_law_818 (pk_in (i + 1) L (by omega)) ?_
    refine aw_eqi (xs (i + 1)) (by rw [nI_clamp (by omega)]) ?_
    refine aw_aload_n d_LA_law_819 rfl 1 rfl ?_
    refine aw_iload d_LA_law_820 0 rfl ?_
    refine aw_iconst (v := nI 2) d_LA_law_822 (by decide) ?_
    refine aw_iaddN d_LA_law_823 ?_
    refine aw_sld d_LA_law_824 (pk_in (i + 2) L (by omega)) ?_
    refine aw_eqi (xs (i + 2)) (by rw [nI_clamp (by omega)]) ?_
    refine aw_aload d_LA_law_825 5 rfl ?_
    refine aw_callSW (K' := k_LA_told) (As := [.ref (0), .int (xs (i + 1)), .int (xs (i + 2)), .ref (70)]) (rest := []) d_LA_law_827 rfl (by decide) cs_LA_116 rfl (Nat.le_of_ble_eq_true rfl) (Nat.le_of_ble_eq_true rfl) (by show n1 + 1 ≤ 601024; omega) (by show n2 + 6 ≤ 7293034; omega) (d' := 7) (w' := 112) (by decide) (by decide) ?_
    show AW _ _ _ _ _ _ _ [(0, .ref (0)), (1, .int (xs (i + 1))), (2, .int (xs (i + 2))), (3, .ref (70))] _ _ _ _ _
    refine aw_aload_n d_LA_told_0 rfl 3 rfl ?_
    refine aw_iconst (v := nI 0) d_LA_told_1 (by decide) ?_
    refine aw_aload_n d_LA_told_2 rfl 0 rfl ?_
    refine aw_iload_n d_LA_told_3 rfl 1 rfl ?_
    refine aw_iload_n d_LA_told_4 rfl 2 rfl ?_
    refine aw_callVX (K' := k_BF_told) (As := [.int (xs (i + 1)), .int (xs (i + 2))]) (rest := [.int (nI (0)), .ref (70)]) (b := 0) d_LA_told_5 rfl rfl rfl cs_LA_54 rfl (Nat.le_of_ble_eq_true rfl) (Nat.le_of_ble_eq_true rfl) (by decide) (by decide) (d' := 6) (w' := 90) (by decide) (by decide) ?_
    show AW _ _ _ _ _ _ _ [(0, .ref (0)), (1, .int (xs (i + 1))), (2, .int (xs (i + 2)))] _ _ _ _ _
    refine C_told_bad hl wq qc hb ?_
    refine ab_afx2 ct_told_IOO (by decide) d_LA_told_12 ?_
    show AW _ _ _ _ _ _ 14 [(0, .ref (0)), (1, .int (xs (i + 1))), (2, .int (xs (i + 2))), (3, .ref (70))] _ _ _ _ _
    refine aw_iconst (v := nI 1) d_LA_told_14 (by decide) ?_
    refine aw_iret d_LA_told_15 rfl (by decide) (by decide) (ab_go1 ?_)
    refine aw_istore (lv' := [(6, .int (nI (1))), (5, .int (nI (i))), (0, .ref (71)), (1, .ref (0)), (2, .ref (57)), (3, .ref (69)), (4, .ref (70))]) d_LA_law_830 (by decide) rfl ?_
    refine aw_aload_n d_LA_law_832 rfl 4 rfl ?_
    refine aw_aload_n d_LA_law_833 rfl 2 rfl ?_
    refine aw_iload d_LA_law_834 1 rfl ?_
    refine aw_iconst (v := nI 1) d_LA_law_836 (by decide) ?_
    refine aw_iaddN d_LA_law_837 ?_
    refine aw_sld d_LA_law_838 (pk_in (i + 1) L (by omega)) ?_
    refine aw_eqi (xs (i + 1)) (by rw [nI_clamp (by omega)]) ?_
    refine aw_aload_n d_LA_law_839 rfl 2 rfl ?_
    refine aw_iload d_LA_law_840 1 rfl ?_
    refine aw_iconst (v := nI 2) d_LA_law_842 (by decide) ?_
    refine aw_iaddN d_LA_law_843 ?_
    refine aw_sld d_LA_law_844 (pk_in (i + 2) L (by omega)) ?_
    refine aw_eqi (xs (i + 2)) (by rw [nI_clamp (by omega)]) ?_
    refine aw_callV (K' := k_MO_told) (As := [.int (xs (i + 1)), .int (xs (i + 2))]) (rest := []) (b := 57) d_LA_law_845 rfl rfl rfl cs_LA_119 rfl (Nat.le_of_ble_eq_true rfl) (Nat.le_of_ble_eq_true rfl) (by show n1 + 1 + 0 ≤ 601024; omega) (by show n2 + 6 + 0 ≤ 7293034; omega) (d' := 1) (w' := 22) (by decide) (by decide) ?_
    show AW _ _ _ _ _ _ _ [(0, .ref (57)), (1, .int (xs (i + 1))), (2, .int (xs (i + 2)))] _ _ _ _ _
    refine R_told_bad wq qr hb ?_
    refine ab_go1 ?_
    refine aw_dstore (lv' := [(7, .double (FP.i2d (nI 0))), (6, .int (nI (1))), (5, .int (nI (i))), (0, .ref (71)), (1, .ref (0)), (2, .ref (57)), (3, .ref (69)), (4, .ref (70))]) d_LA_law_848 (by decide) rfl ?_
    refine aw_aload_n d_LA_law_850 rfl 5 rfl ?_
    refine aw_callV (K' := k_MO_thrown) (As := []) (rest := []) (b := 57) d_LA_law_851 rfl rfl rfl cs_LA_71 rfl (Nat.le_of_ble_eq_true rfl) (Nat.le_of_ble_eq_true rfl) (by show n1 + 1 + 0 ≤ 601024; omega) (by show n2 + 6 + 0 ≤ 7293034; omega) (d' := 0) (w' := 0) (by decide) (by decide) ?_
    show AW _ _ _ _ _ _ _ [(0, .ref (57))] _ _ _ _ _
    refine aw_aload_n d_MO_thrown_0 rfl 0 rfl ?_
    refine aw_get (ic := 57) (ci := 6) (k := 0) d_MO_thrown_1 rfl rfl (by decide) rfl mw_775 rfl ?_
    refine aw_eqi (nI (1)) (sI_hit _ _ _ _) ?_
    refine aw_iret d_MO_thrown_4 rfl (by decide) (by decide) (ab_go1 ?_)
    refine aw_iload d_LA_law_854 1 rfl ?_
    refine aw_icmp_eqN (tgt := 861) d_LA_law_856 (by decide) (by omega) (by omega) (fun c1 => ?_) (fun c1 => ?_)
    · skip
      refine aw_iload d_LA_law_861 1 rfl ?_
      refine aw_if_neN (tgt := 898) d_LA_law_863 (by decide) (by omega) (fun c2 => ?_) (fun c2 => ?_)
      · skip
        refine aw_goto (tgt := 957) d_LA_law_898 (by decide) ?_
        refine aw_pick [2, 3, 4, 5, 6, 7] rfl ?_
        exact hK D T S R _ ⟨hI.1, CI_thr ci, RI_thr ri⟩
      · skip
        exact absurd c2 (by decide)
    · skip
      exfalso; omega
  · skip
    obtain ⟨t, ht, hx⟩ : ∃ t, t < qn T ∧ xs (i + 1) = nI t := ⟨(xs (i + 1)).toInt.toNat, by omega, i32_nat (by omega)⟩
    by_cases hc : (xs (i + 2)).toInt < 0 ∨ 2 < (xs (i + 2)).toInt
    · skip
      refine aw_aload_n d_LA_law_812 rfl 2 rfl ?_
      refine aw_aload_n d_LA_law_813 rfl 1 rfl ?_
      refine aw_iload d_LA_law_814 0 rfl ?_
      refine aw_iconst (v := nI 1) d_LA_law_816 (by decide) ?_
      refine aw_iaddN d_LA_law_817 ?_
      refine aw_sld d_LA_law_818 (pk_in (i + 1) L (by omega)) ?_
      refine aw_eqi (nI (t)) (by rw [nI_clamp (by omega), hx]) ?_
      refine aw_aload_n d_LA_law_819 rfl 1 rfl ?_
      refine aw_iload d_LA_law_820 0 rfl ?_
      refine aw_iconst (v := nI 2) d_LA_law_822 (by decide) ?_
      refine aw_iaddN d_LA_law_823 ?_
      refine aw_sld d_LA_law_824 (pk_in (i + 2) L (by omega)) ?_
      refine aw_eqi (xs (i + 2)) (by rw [nI_clamp (by omega)]) ?_
      refine aw_aload d_LA_law_825 5 rfl ?_
      refine aw_callSW (K' := k_LA_told) (As := [.ref (0), .int (nI (t)), .int (xs (i + 2)), .ref (70)]) (rest := []) d_LA_law_827 rfl (by decide) cs_LA_116 rfl (Nat.le_of_ble_eq_true rfl) (Nat.le_of_ble_eq_true rfl) (by show n1 + 1 ≤ 601024; omega) (by show n2 + 6 ≤ 7293034; omega) (d' := 7) (w' := 112) (by decide) (by decide) ?_
      show AW _ _ _ _ _ _ _ [(0, .ref (0)), (1, .int (nI (t))), (2, .int (xs (i + 2))), (3, .ref (70))] _ _ _ _ _
      refine aw_aload_n d_LA_told_0 rfl 3 rfl ?_
      refine aw_iconst (v := nI 0) d_LA_told_1 (by decide) ?_
      refine aw_aload_n d_LA_told_2 rfl 0 rfl ?_
      refine aw_iload_n d_LA_told_3 rfl 1 rfl ?_
      refine aw_iload_n d_LA_told_4 rfl 2 rfl ?_
      refine aw_callVX (K' := k_BF_told) (As := [.int (nI (t)), .int (xs (i + 2))]) (rest := [.int (nI (0)), .ref (70)]) (b := 0) d_LA_told_5 rfl rfl rfl cs_LA_54 rfl (Nat.le_of_ble_eq_true rfl) (Nat.le_of_ble_eq_true rfl) (by decide) (by decide) (d' := 6) (w' := 90) (by decide) (by decide) ?_
      show AW _ _ _ _ _ _ _ [(0, .ref (0)), (1, .int (nI (t))), (2, .int (xs (i + 2)))] _ _ _ _ _
      refine C_told_badw hl wq qc ht hc ?_
      refine ab_afx2 ct_told_IAE (by decide) d_LA_told_16 ?_
      show AW _ _ _ _ _ _ 18 [(0, .ref (0)), (1, .int (nI (t))), (2, .int (xs (i + 2))), (3, .ref (70))] _ _ _ _ _
      refine aw_iconst (v := nI 2) d_LA_told_18 (by decide) ?_
      refine aw_iret d_LA_told_19 rfl (by decide) (by decide) (ab_go1 ?_)
      refine aw_istore (lv' := [(6, .int (nI (2))), (5, .int (nI (i))), (0, .ref (71)), (1, .ref (0)), (2, .ref (57)), (3, .ref (69)), (4, .ref (70))]) d_LA_law_830 (by decide) rfl ?_
      refine aw_aload_n d_LA_law_832 rfl 4 rfl ?_
      refine aw_aload_n d_LA_law_833 rfl 2 rfl ?_
      refine aw_iload d_LA_law_834 1 rfl ?_
      refine aw_iconst (v := nI 1) d_LA_law_836 (by decide) ?_
      refine aw_iaddN d_LA_law_837 ?_
      refine aw_sld d_LA_law_838 (pk_in (i + 1) L (by omega)) ?_
      refine aw_eqi (nI (t)) (by rw [nI_clamp (by omega), hx]) ?_
      refine aw_aload_n d_LA_law_839 rfl 2 rfl ?_
      refine aw_iload d_LA_law_840 1 rfl ?_
      refine aw_iconst (v := nI 2) d_LA_law_842 (by decide) ?_
      refine aw_iaddN d_LA_law_843 ?_
      refine aw_sld d_LA_law_844 (pk_in (i + 2) L (by omega)) ?_
      refine aw_eqi (xs (i + 2)) (by rw [nI_clamp (by omega)]) ?_
      refine aw_callV (K' := k_MO_told) (As := [.int (nI (t)), .int (xs (i + 2))]) (rest := []) (b := 57) d_LA_law_845 rfl rfl rfl cs_LA_119 rfl (Nat.le_of_ble_eq_true rfl) (Nat.le_of_ble_eq_true rfl) (by show n1 + 1 + 0 ≤ 601024; omega) (by show n2 + 6 + 0 ≤ 7293034; omega) (d' := 1) (w' := 22) (by decide) (by decide) ?_
      show AW _ _ _ _ _ _ _ [(0, .ref (57)), (1, .int (nI (t))), (2, .int (xs (i + 2)))] _ _ _ _ _
      refine R_told_badw wq qr ht hc ?_
      refine ab_go1 ?_
      refine aw_dstore (lv' := [(7, .double (FP.i2d (nI 0))), (6, .int (nI (2))), (5, .int (nI (i))), (0, .ref (71)), (1, .ref (0)), (2, .ref (57)), (3, .ref (69)), (4, .ref (70))]) d_LA_law_848 (by decide) rfl ?_
      refine aw_aload_n d_LA_law_850 rfl 5 rfl ?_
      refine aw_callV (K' := k_MO_thrown) (As := []) (rest := []) (b := 57) d_LA_law_851 rfl rfl rfl cs_LA_71 rfl (Nat.le_of_ble_eq_true rfl) (Nat.le_of_ble_eq_true rfl) (by show n1 + 1 + 0 ≤ 601024; omega) (by show n2 + 6 + 0 ≤ 7293034; omega) (d' := 0) (w' := 0) (by decide) (by decide) ?_
      show AW _ _ _ _ _ _ _ [(0, .ref (57))] _ _ _ _ _
      refine aw_aload_n d_MO_thrown_0 rfl 0 rfl ?_
      refine aw_get (ic := 57) (ci := 6) (k := 0) d_MO_thrown_1 rfl rfl (by decide) rfl mw_775 rfl ?_
      refine aw_eqi (nI (2)) (sI_hit _ _ _ _) ?_
      refine aw_iret d_MO_thrown_4 rfl (by decide) (by decide) (ab_go1 ?_)
      refine aw_iload d_LA_law_854 1 rfl ?_
      refine aw_icmp_eqN (tgt := 861) d_LA_law_856 (by decide) (by omega) (by omega) (fun c1 => ?_) (fun c1 => ?_)
      · skip
        refine aw_iload d_LA_law_861 1 rfl ?_
        refine aw_if_neN (tgt := 898) d_LA_law_863 (by decide) (by omega) (fun c2 => ?_) (fun c2 => ?_)
        · skip
          refine aw_goto (tgt := 957) d_LA_law_898 (by decide) ?_
          refine aw_pick [2, 3, 4, 5, 6, 7] rfl ?_
          exact hK D T S R _ ⟨hI.1, CI_thr ci, RI_thr ri⟩
        · skip
          exact absurd c2 (by decide)
      · skip
        exfalso; omega
    · skip
      by_cases h0 : (xs (i + 2)).toInt = 0
      · skip
        have hy : xs (i + 2) = nI 0 := by have := i32_nat (s := xs (i + 2)) (by omega); rw [show (xs (i + 2)).toInt.toNat = 0 by omega] at this; exact this
        refine aw_aload_n d_LA_law_812 rfl 2 rfl ?_
        refine aw_aload_n d_LA_law_813 rfl 1 rfl ?_
        refine aw_iload d_LA_law_814 0 rfl ?_
        refine aw_iconst (v := nI 1) d_LA_law_816 (by decide) ?_
        refine aw_iaddN d_LA_law_817 ?_
        refine aw_sld d_LA_law_818 (pk_in (i + 1) L (by omega)) ?_
        refine aw_eqi (nI (t)) (by rw [nI_clamp (by omega), hx]) ?_
        refine aw_aload_n d_LA_law_819 rfl 1 rfl ?_
        refine aw_iload d_LA_law_820 0 rfl ?_
        refine aw_iconst (v := nI 2) d_LA_law_822 (by decide) ?_
        refine aw_iaddN d_LA_law_823 ?_
        refine aw_sld d_LA_law_824 (pk_in (i + 2) L (by omega)) ?_
        refine aw_eqi (nI (0)) (by rw [nI_clamp (by omega), hy]) ?_
        refine aw_aload d_LA_law_825 5 rfl ?_
        refine aw_callSW (K' := k_LA_told) (As := [.ref (0), .int (nI (t)), .int (nI (0)), .ref (70)]) (rest := []) d_LA_law_827 rfl (by decide) cs_LA_116 rfl (Nat.le_of_ble_eq_true rfl) (Nat.le_of_ble_eq_true rfl) (by show n1 + 1 ≤ 601024; omega) (by show n2 + 6 ≤ 7293034; omega) (d' := 7) (w' := 112) (by decide) (by decide) ?_
        show AW _ _ _ _ _ _ _ [(0, .ref (0)), (1, .int (nI (t))), (2, .int (nI (0))), (3, .ref (70))] _ _ _ _ _
        refine aw_aload_n d_LA_told_0 rfl 3 rfl ?_
        refine aw_iconst (v := nI 0) d_LA_told_1 (by decide) ?_
        refine aw_aload_n d_LA_told_2 rfl 0 rfl ?_
        refine aw_iload_n d_LA_told_3 rfl 1 rfl ?_
        refine aw_iload_n d_LA_told_4 rfl 2 rfl ?_
        refine aw_callVX (K' := k_BF_told) (As := [.int (nI (t)), .int (nI (0))]) (rest := [.int (nI (0)), .ref (70)]) (b := 0) d_LA_told_5 rfl rfl rfl cs_LA_54 rfl (Nat.le_of_ble_eq_true rfl) (Nat.le_of_ble_eq_true rfl) (by decide) (by decide) (d' := 6) (w' := 90) (by decide) (by decide) ?_
        show AW _ _ _ _ _ _ _ [(0, .ref (0)), (1, .int (nI (t))), (2, .int (nI (0)))] _ _ _ _ _
        refine C_told0 hl wq qc ht ?_
        refine ab_af1 ?_
        refine aw_dastN d_LA_told_8 rfl (by decide) (by omega) ?_
        refine aw_goto (tgt := 20) d_LA_told_9 (by decide) ?_
        refine aw_iconst (v := nI 0) d_LA_told_20 (by decide) ?_
        refine aw_iret d_LA_told_21 rfl (by decide) (by decide) (ab_go1 ?_)
        refine aw_istore (lv' := [(6, .int (nI (0))), (5, .int (nI (i))), (0, .ref (71)), (1, .ref (0)), (2, .ref (57)), (3, .ref (69)), (4, .ref (70))]) d_LA_law_830 (by decide) rfl ?_
        refine aw_aload_n d_LA_law_832 rfl 4 rfl ?_
        refine aw_aload_n d_LA_law_833 rfl 2 rfl ?_
        refine aw_iload d_LA_law_834 1 rfl ?_
        refine aw_iconst (v := nI 1) d_LA_law_836 (by decide) ?_
        refine aw_iaddN d_LA_law_837 ?_
        refine aw_sld d_LA_law_838 (pk_in (i + 1) L (by omega)) ?_
        refine aw_eqi (nI (t)) (by rw [nI_clamp (by omega), hx]) ?_
        refine aw_aload_n d_LA_law_839 rfl 2 rfl ?_
        refine aw_iload d_LA_law_840 1 rfl ?_
        refine aw_iconst (v := nI 2) d_LA_law_842 (by decide) ?_
        refine aw_iaddN d_LA_law_843 ?_
        refine aw_sld d_LA_law_844 (pk_in (i + 2) L (by omega)) ?_
        refine aw_eqi (nI (0)) (by rw [nI_clamp (by omega), hy]) ?_
        refine aw_callV (K' := k_MO_told) (As := [.int (nI (t)), .int (nI (0))]) (rest := []) (b := 57) d_LA_law_845 rfl rfl rfl cs_LA_119 rfl (Nat.le_of_ble_eq_true rfl) (Nat.le_of_ble_eq_true rfl) (by show n1 + 1 + 0 ≤ 601024; omega) (by show n2 + 6 + 0 ≤ 7293034; omega) (d' := 1) (w' := 22) (by decide) (by decide) ?_
        show AW _ _ _ _ _ _ _ [(0, .ref (57)), (1, .int (nI (t))), (2, .int (nI (0)))] _ _ _ _ _
        have r1 : RI D T S R (ab_sD M (70) (0) (FP.i2d (nI (qk T t)))) := RI_D ri
        refine R_told0 wq r1.2.1 ht ?_
        refine ab_go1 ?_
        refine aw_dstore (lv' := [(7, .double (FP.i2d (nI (qk T t)))), (6, .int (nI (0))), (5, .int (nI (i))), (0, .ref (71)), (1, .ref (0)), (2, .ref (57)), (3, .ref (69)), (4, .ref (70))]) d_LA_law_848 (by decide) rfl ?_
        refine aw_aload_n d_LA_law_850 rfl 5 rfl ?_
        refine aw_callV (K' := k_MO_thrown) (As := []) (rest := []) (b := 57) d_LA_law_851 rfl rfl rfl cs_LA_71 rfl (Nat.le_of_ble_eq_true rfl) (Nat.le_of_ble_eq_true rfl) (by show n1 + 1 + 0 ≤ 601024; omega) (by show n2 + 6 + 0 ≤ 7293034; omega) (d' := 0) (w' := 0) (by decide) (by decide) ?_
        show AW _ _ _ _ _ _ _ [(0, .ref (57))] _ _ _ _ _
        refine aw_aload_n d_MO_thrown_0 rfl 0 rfl ?_
        refine aw_get (ic := 57) (ci := 6) (k := 0) d_MO_thrown_1 rfl rfl (by decide) rfl mw_775 rfl ?_
        refine aw_eqi (nI (0)) (sI_hit _ _ _ _) ?_
        refine aw_iret d_MO_thrown_4 rfl (by decide) (by decide) (ab_go1 ?_)
        refine aw_iload d_LA_law_854 1 rfl ?_
        refine aw_icmp_eqN (tgt := 861) d_LA_law_856 (by decide) (by omega) (by omega) (fun c1 => ?_) (fun c1 => ?_)
        · skip
          refine aw_iload d_LA_law_861 1 rfl ?_
          refine aw_if_neN (tgt := 898) d_LA_law_863 (by decide) (by omega) (fun c2 => ?_) (fun c2 => ?_)
          · skip
            exact absurd c2 (by decide)
          · skip
            refine aw_aload d_LA_law_866 7 rfl ?_
            refine aw_iconst (v := nI 0) d_LA_law_868 (by decide) ?_
            refine aw_daldN d_LA_law_869 rfl (by decide) (by omega) ?_
            refine aw_eqd (FP.i2d (nI (qk T t))) (sD_hit _ _ _ _) ?_
            refine aw_dload d_LA_law_870 0 rfl ?_
            refine aw_dcmp d_LA_law_872 ?_
            refine ad_eq (fF_i _).n (fF_i _).n d_LA_law_873 (tgt := 898) (by decide) (fun c3 => ?_) (fun c3 => ?_)
            · skip
              refine aw_goto (tgt := 957) d_LA_law_898 (by decide) ?_
              refine aw_pick [2, 3, 4, 5, 6, 7] rfl ?_
              exact hK D T S R _ ⟨hI.1, CI_thr (CI_D ci), RI_thr r1⟩
            · skip
              exact absurd rfl c3
        · skip
          exfalso; omega
      by_cases h1 : (xs (i + 2)).toInt = 1
      · skip
        have hy : xs (i + 2) = nI 1 := by have := i32_nat (s := xs (i + 2)) (by omega); rw [show (xs (i + 2)).toInt.toNat = 1 by omega] at this; exact this
        refine aw_aload_n d_LA_law_812 rfl 2 rfl ?_
        refine aw_aload_n d_LA_law_813 rfl 1 rfl ?_
        refine aw_iload d_LA_law_814 0 rfl ?_
        refine aw_iconst (v := nI 1) d_LA_law_816 (by decide) ?_
        refine aw_iaddN d_LA_law_817 ?_
        refine aw_sld d_LA_law_818 (pk_in (i + 1) L (by omega)) ?_
        refine aw_eqi (nI (t)) (by rw [nI_clamp (by omega), hx]) ?_
        refine aw_aload_n d_LA_law_819 rfl 1 rfl ?_
        refine aw_iload d_LA_law_820 0 rfl ?_
        refine aw_iconst (v := nI 2) d_LA_law_822 (by decide) ?_
        refine aw_iaddN d_LA_law_823 ?_
        refine aw_sld d_LA_law_824 (pk_in (i + 2) L (by omega)) ?_
        refine aw_eqi (nI (1)) (by rw [nI_clamp (by omega), hy]) ?_
        refine aw_aload d_LA_law_825 5 rfl ?_
        refine aw_callSW (K' := k_LA_told) (As := [.ref (0), .int (nI (t)), .int (nI (1)), .ref (70)]) (rest := []) d_LA_law_827 rfl (by decide) cs_LA_116 rfl (Nat.le_of_ble_eq_true rfl) (Nat.le_of_ble_eq_true rfl) (by show n1 + 1 ≤ 601024; omega) (by show n2 + 6 ≤ 7293034; omega) (d' := 7) (w' := 112) (by decide) (by decide) ?_
        show AW _ _ _ _ _ _ _ [(0, .ref (0)), (1, .int (nI (t))), (2, .int (nI (1))), (3, .ref (70))] _ _ _ _ _
        refine aw_aload_n d_LA_told_0 rfl 3 rfl ?_
        refine aw_iconst (v := nI 0) d_LA_told_1 (by decide) ?_
        refine aw_aload_n d_LA_told_2 rfl 0 rfl ?_
        refine aw_iload_n d_LA_told_3 rfl 1 rfl ?_
        refine aw_iload_n d_LA_told_4 rfl 2 rfl ?_
        refine aw_callVX (K' := k_BF_told) (As := [.int (nI (t)), .int (nI (1))]) (rest := [.int (nI (0)), .ref (70)]) (b := 0) d_LA_told_5 rfl rfl rfl cs_LA_54 rfl (Nat.le_of_ble_eq_true rfl) (Nat.le_of_ble_eq_true rfl) (by decide) (by decide) (d' := 6) (w' := 90) (by decide) (by decide) ?_
        show AW _ _ _ _ _ _ _ [(0, .ref (0)), (1, .int (nI (t))), (2, .int (nI (1)))] _ _ _ _ _
        refine C_told1 hl wq qc ht ?_
        refine ab_af1 ?_
        refine aw_dastN d_LA_told_8 rfl (by decide) (by omega) ?_
        refine aw_goto (tgt := 20) d_LA_told_9 (by decide) ?_
        refine aw_iconst (v := nI 0) d_LA_told_20 (by decide) ?_
        refine aw_iret d_LA_told_21 rfl (by decide) (by decide) (ab_go1 ?_)
        refine aw_istore (lv' := [(6, .int (nI (0))), (5, .int (nI (i))), (0, .ref (71)), (1, .ref (0)), (2, .ref (57)), (3, .ref (69)), (4, .ref (70))]) d_LA_law_830 (by decide) rfl ?_
        refine aw_aload_n d_LA_law_832 rfl 4 rfl ?_
        refine aw_aload_n d_LA_law_833 rfl 2 rfl ?_
        refine aw_iload d_LA_law_834 1 rfl ?_
        refine aw_iconst (v := nI 1) d_LA_law_836 (by decide) ?_
        refine aw_iaddN d_LA_law_837 ?_
        refine aw_sld d_LA_law_838 (pk_in (i + 1) L (by omega)) ?_
        refine aw_eqi (nI (t)) (by rw [nI_clamp (by omega), hx]) ?_
        refine aw_aload_n d_LA_law_839 rfl 2 rfl ?_
        refine aw_iload d_LA_law_840 1 rfl ?_
        refine aw_iconst (v := nI 2) d_LA_law_842 (by decide) ?_
        refine aw_iaddN d_LA_law_843 ?_
        refine aw_sld d_LA_law_844 (pk_in (i + 2) L (by omega)) ?_
        refine aw_eqi (nI (1)) (by rw [nI_clamp (by omega), hy]) ?_
        refine aw_callV (K' := k_MO_told) (As := [.int (nI (t)), .int (nI (1))]) (rest := []) (b := 57) d_LA_law_845 rfl rfl rfl cs_LA_119 rfl (Nat.le_of_ble_eq_true rfl) (Nat.le_of_ble_eq_true rfl) (by show n1 + 1 + 0 ≤ 601024; omega) (by show n2 + 6 + 0 ≤ 7293034; omega) (d' := 1) (w' := 22) (by decide) (by decide) ?_
        show AW _ _ _ _ _ _ _ [(0, .ref (57)), (1, .int (nI (t))), (2, .int (nI (1)))] _ _ _ _ _
        have r1 : RI D T S R (ab_sD M (70) (0) (FP.i2d (nI (qa T t)))) := RI_D ri
        refine R_told1 wq r1.2.1 ht ?_
        refine ab_go1 ?_
        refine aw_dstore (lv' := [(7, .double (FP.i2d (nI (qa T t)))), (6, .int (nI (0))), (5, .int (nI (i))), (0, .ref (71)), (1, .ref (0)), (2, .ref (57)), (3, .ref (69)), (4, .ref (70))]) d_LA_law_848 (by decide) rfl ?_
        refine aw_aload_n d_LA_law_850 rfl 5 rfl ?_
        refine aw_callV (K' := k_MO_thrown) (As := []) (rest := []) (b := 57) d_LA_law_851 rfl rfl rfl cs_LA_71 rfl (Nat.le_of_ble_eq_true rfl) (Nat.le_of_ble_eq_true rfl) (by show n1 + 1 + 0 ≤ 601024; omega) (by show n2 + 6 + 0 ≤ 7293034; omega) (d' := 0) (w' := 0) (by decide) (by decide) ?_
        show AW _ _ _ _ _ _ _ [(0, .ref (57))] _ _ _ _ _
        refine aw_aload_n d_MO_thrown_0 rfl 0 rfl ?_
        refine aw_get (ic := 57) (ci := 6) (k := 0) d_MO_thrown_1 rfl rfl (by decide) rfl mw_775 rfl ?_
        refine aw_eqi (nI (0)) (sI_hit _ _ _ _) ?_
        refine aw_iret d_MO_thrown_4 rfl (by decide) (by decide) (ab_go1 ?_)
        refine aw_iload d_LA_law_854 1 rfl ?_
        refine aw_icmp_eqN (tgt := 861) d_LA_law_856 (by decide) (by omega) (by omega) (fun c1 => ?_) (fun c1 => ?_)
        · skip
          refine aw_iload d_LA_law_861 1 rfl ?_
          refine aw_if_neN (tgt := 898) d_LA_law_863 (by decide) (by omega) (fun c2 => ?_) (fun c2 => ?_)
          · skip
            exact absurd c2 (by decide)
          · skip
            refine aw_aload d_LA_law_866 7 rfl ?_
            refine aw_iconst (v := nI 0) d_LA_law_868 (by decide) ?_
            refine aw_daldN d_LA_law_869 rfl (by decide) (by omega) ?_
            refine aw_eqd (FP.i2d (nI (qa T t))) (sD_hit _ _ _ _) ?_
            refine aw_dload d_LA_law_870 0 rfl ?_
            refine aw_dcmp d_LA_law_872 ?_
            refine ad_eq (fF_i _).n (fF_i _).n d_LA_law_873 (tgt := 898) (by decide) (fun c3 => ?_) (fun c3 => ?_)
            · skip
              refine aw_goto (tgt := 957) d_LA_law_898 (by decide) ?_
              refine aw_pick [2, 3, 4, 5, 6, 7] rfl ?_
              exact hK D T S R _ ⟨hI.1, CI_thr (CI_D ci), RI_thr r1⟩
            · skip
              exact absurd rfl c3
        · skip
          exfalso; omega
      · skip
        have hy : xs (i + 2) = nI 2 := by have := i32_nat (s := xs (i + 2)) (by omega); rw [show (xs (i + 2)).toInt.toNat = 2 by omega] at this; exact this
        refine aw_aload_n d_LA_law_812 rfl 2 rfl ?_
        refine aw_aload_n d_LA_law_813 rfl 1 rfl ?_
        refine aw_iload d_LA_law_814 0 rfl ?_
        refine aw_iconst (v := nI 1) d_LA_law_816 (by decide) ?_
        refine aw_iaddN d_LA_law_817 ?_
        refine aw_sld d_LA_law_818 (pk_in (i + 1) L (by omega)) ?_
        refine aw_eqi (nI (t)) (by rw [nI_clamp (by omega), hx]) ?_
        refine aw_aload_n d_LA_law_819 rfl 1 rfl ?_
        refine aw_iload d_LA_law_820 0 rfl ?_
        refine aw_iconst (v := nI 2) d_LA_law_822 (by decide) ?_
        refine aw_iaddN d_LA_law_823 ?_
        refine aw_sld d_LA_law_824 (pk_in (i + 2) L (by omega)) ?_
        refine aw_eqi (nI (2)) (by rw [nI_clamp (by omega), hy]) ?_
        refine aw_aload d_LA_law_825 5 rfl ?_
        refine aw_callSW (K' := k_LA_told) (As := [.ref (0), .int (nI (t)), .int (nI (2)), .ref (70)]) (rest := []) d_LA_law_827 rfl (by decide) cs_LA_116 rfl (Nat.le_of_ble_eq_true rfl) (Nat.le_of_ble_eq_true rfl) (by show n1 + 1 ≤ 601024; omega) (by show n2 + 6 ≤ 7293034; omega) (d' := 7) (w' := 112) (by decide) (by decide) ?_
        show AW _ _ _ _ _ _ _ [(0, .ref (0)), (1, .int (nI (t))), (2, .int (nI (2))), (3, .ref (70))] _ _ _ _ _
        refine aw_aload_n d_LA_told_0 rfl 3 rfl ?_
        refine aw_iconst (v := nI 0) d_LA_told_1 (by decide) ?_
        refine aw_aload_n d_LA_told_2 rfl 0 rfl ?_
        refine aw_iload_n d_LA_told_3 rfl 1 rfl ?_
        refine aw_iload_n d_LA_told_4 rfl 2 rfl ?_
        refine aw_callVX (K' := k_BF_told) (As := [.int (nI (t)), .int (nI (2))]) (rest := [.int (nI (0)), .ref (70)]) (b := 0) d_LA_told_5 rfl rfl rfl cs_LA_54 rfl (Nat.le_of_ble_eq_true rfl) (Nat.le_of_ble_eq_true rfl) (by decide) (by decide) (d' := 6) (w' := 90) (by decide) (by decide) ?_
        show AW _ _ _ _ _ _ _ [(0, .ref (0)), (1, .int (nI (t))), (2, .int (nI (2)))] _ _ _ _ _
        refine C_told2 hl wq qc ht ?_
        refine ab_af1 ?_
        refine aw_dastN d_LA_told_8 rfl (by decide) (by omega) ?_
        refine aw_goto (tgt := 20) d_LA_told_9 (by decide) ?_
        refine aw_iconst (v := nI 0) d_LA_told_20 (by decide) ?_
        refine aw_iret d_LA_told_21 rfl (by decide) (by decide) (ab_go1 ?_)
        refine aw_istore (lv' := [(6, .int (nI (0))), (5, .int (nI (i))), (0, .ref (71)), (1, .ref (0)), (2, .ref (57)), (3, .ref (69)), (4, .ref (70))]) d_LA_law_830 (by decide) rfl ?_
        refine aw_aload_n d_LA_law_832 rfl 4 rfl ?_
        refine aw_aload_n d_LA_law_833 rfl 2 rfl ?_
        refine aw_iload d_LA_law_834 1 rfl ?_
        refine aw_iconst (v := nI 1) d_LA_law_836 (by decide) ?_
        refine aw_iaddN d_LA_law_837 ?_
        refine aw_sld d_LA_law_838 (pk_in (i + 1) L (by omega)) ?_
        refine aw_eqi (nI (t)) (by rw [nI_clamp (by omega), hx]) ?_
        refine aw_aload_n d_LA_law_839 rfl 2 rfl ?_
        refine aw_iload d_LA_law_840 1 rfl ?_
        refine aw_iconst (v := nI 2) d_LA_law_842 (by decide) ?_
        refine aw_iaddN d_LA_law_843 ?_
        refine aw_sld d_LA_law_844 (pk_in (i + 2) L (by omega)) ?_
        refine aw_eqi (nI (2)) (by rw [nI_clamp (by omega), hy]) ?_
        refine aw_callV (K' := k_MO_told) (As := [.int (nI (t)), .int (nI (2))]) (rest := []) (b := 57) d_LA_law_845 rfl rfl rfl cs_LA_119 rfl (Nat.le_of_ble_eq_true rfl) (Nat.le_of_ble_eq_true rfl) (by show n1 + 1 + 0 ≤ 601024; omega) (by show n2 + 6 + 0 ≤ 7293034; omega) (d' := 1) (w' := 22) (by decide) (by decide) ?_
        show AW _ _ _ _ _ _ _ [(0, .ref (57)), (1, .int (nI (t))), (2, .int (nI (2)))] _ _ _ _ _
        have r1 : RI D T S R (ab_sD M (70) (0) (qw T t)) := RI_D ri
        refine R_told2 wq r1.2.1 ht ?_
        refine ab_go1 ?_
        refine aw_dstore (lv' := [(7, .double (qw T t)), (6, .int (nI (0))), (5, .int (nI (i))), (0, .ref (71)), (1, .ref (0)), (2, .ref (57)), (3, .ref (69)), (4, .ref (70))]) d_LA_law_848 (by decide) rfl ?_
        refine aw_aload_n d_LA_law_850 rfl 5 rfl ?_
        refine aw_callV (K' := k_MO_thrown) (As := []) (rest := []) (b := 57) d_LA_law_851 rfl rfl rfl cs_LA_71 rfl (Nat.le_of_ble_eq_true rfl) (Nat.le_of_ble_eq_true rfl) (by show n1 + 1 + 0 ≤ 601024; omega) (by show n2 + 6 + 0 ≤ 7293034; omega) (d' := 0) (w' := 0) (by decide) (by decide) ?_
        show AW _ _ _ _ _ _ _ [(0, .ref (57))] _ _ _ _ _
        refine aw_aload_n d_MO_thrown_0 rfl 0 rfl ?_
        refine aw_get (ic := 57) (ci := 6) (k := 0) d_MO_thrown_1 rfl rfl (by decide) rfl mw_775 rfl ?_
        refine aw_eqi (nI (0)) (sI_hit _ _ _ _) ?_
        refine aw_iret d_MO_thrown_4 rfl (by decide) (by decide) (ab_go1 ?_)
        refine aw_iload d_LA_law_854 1 rfl ?_
        refine aw_icmp_eqN (tgt := 861) d_LA_law_856 (by decide) (by omega) (by omega) (fun c1 => ?_) (fun c1 => ?_)
        · skip
          refine aw_iload d_LA_law_861 1 rfl ?_
          refine aw_if_neN (tgt := 898) d_LA_law_863 (by decide) (by omega) (fun c2 => ?_) (fun c2 => ?_)
          · skip
            exact absurd c2 (by decide)
          · skip
            refine aw_aload d_LA_law_866 7 rfl ?_
            refine aw_iconst (v := nI 0) d_LA_law_868 (by decide) ?_
            refine aw_daldN d_LA_law_869 rfl (by decide) (by omega) ?_
            refine aw_eqd (qw T t) (sD_hit _ _ _ _) ?_
            refine aw_dload d_LA_law_870 0 rfl ?_
            refine aw_dcmp d_LA_law_872 ?_
            refine ad_eq (wq.2.1 t ht).2.2.2.2.2.1.n (wq.2.1 t ht).2.2.2.2.2.1.n d_LA_law_873 (tgt := 898) (by decide) (fun c3 => ?_) (fun c3 => ?_)
            · skip
              refine aw_goto (tgt := 957) d_LA_law_898 (by decide) ?_
              refine aw_pick [2, 3, 4, 5, 6, 7] rfl ?_
              exact hK D T S R _ ⟨hI.1, CI_thr (CI_D ci), RI_thr r1⟩
            · skip
              exact absurd rfl c3
        · skip
          exfalso; omega
set_option maxRecDepth 8000 in
theorem LC_count {l : Launch} {b L : Nat} {xs : Nat → Int32} {M : ab_M} {Q : ab_O → ab_M → Prop} {n1 n2 : Nat} (hl : l.stackTraces = false) {D : Dg} {T : Qg} {S : Sg} {R : Rg} (hI : INV D T S R M) {i : Nat} (hi : i + 4 ≤ L) (hL : L ≤ 2048) (hn1 : n1 + 1 ≤ 601024) (hn2 : n2 + 6 ≤ 7293034) (hK : ∀ (D : Dg) (T : Qg) (S : Sg) (R : Rg) (M' : ab_M), INV D T S R M' → AW sys l (ab_Zs9 sys 71 b L xs) k_LA_law 9 207 957 [(5, .int (nI (i))), (0, .ref (71)), (1, .ref (0)), (2, .ref (57)), (3, .ref (69)), (4, .ref (70))] [] M' (n1 + 1) (n2 + 6) Q) : AW sys l (ab_Zs9 sys 71 b L xs) k_LA_law 9 207 901 [(5, .int (nI (i))), (0, .ref (71)), (1, .ref (0)), (2, .ref (57)), (3, .ref (69)), (4, .ref (70))] [] M n1 n2 Q := by
  obtain ⟨⟨wd, wq, ws, wr⟩, ci, ri⟩ := id hI
  obtain ⟨dc, qc, sc, rc⟩ := id ci
  obtain ⟨dr, qr, sr, rr⟩ := id ri
  by_cases k1 : 10 ≤ (xs (i + 1)).toInt ∧ (xs (i + 1)).toInt ≤ 21
  · skip
    obtain ⟨d, hd, hx⟩ : ∃ d, d < 12 ∧ xs (i + 1) = nI (10 + d) := ⟨(xs (i + 1)).toInt.toNat - 10, by omega, by rw [show 10 + ((xs (i + 1)).toInt.toNat - 10) = (xs (i + 1)).toInt.toNat by omega]; exact i32_nat (by omega)⟩
    refine aw_aload_n d_LA_law_901 rfl 2 rfl ?_
    refine aw_aload_n d_LA_law_902 rfl 1 rfl ?_
    refine aw_iload d_LA_law_903 0 rfl ?_
    refine aw_iconst (v := nI 1) d_LA_law_905 (by decide) ?_
    refine aw_iaddN d_LA_law_906 ?_
    refine aw_sld d_LA_law_907 (pk_in (i + 1) L (by omega)) ?_
    refine aw_eqi (nI (10 + d)) (by rw [nI_clamp (by omega), hx]) ?_
    refine aw_aload_n d_LA_law_908 rfl 4 rfl ?_
    refine aw_callSW (K' := k_LA_count) (As := [.ref (0), .int (nI (10 + d)), .ref (69)]) (rest := []) d_LA_law_909 rfl (by decide) cs_LA_120 rfl (Nat.le_of_ble_eq_true rfl) (Nat.le_of_ble_eq_true rfl) (by show n1 + 1 ≤ 601024; omega) (by show n2 + 6 ≤ 7293034; omega) (d' := 7) (w' := 111) (by decide) (by decide) ?_
    show AW _ _ _ _ _ _ _ [(0, .ref (0)), (1, .int (nI (10 + d))), (2, .ref (69))] _ _ _ _ _
    refine aw_aload_n d_LA_count_0 rfl 2 rfl ?_
    refine aw_iconst (v := nI 0) d_LA_count_1 (by decide) ?_
    refine aw_aload_n d_LA_count_2 rfl 0 rfl ?_
    refine aw_iload_n d_LA_count_3 rfl 1 rfl ?_
    refine aw_callVX (K' := k_BF_count) (As := [.int (nI (10 + d))]) (rest := [.int (nI (0)), .ref (69)]) (b := 0) d_LA_count_4 rfl rfl rfl cs_LA_58 rfl (Nat.le_of_ble_eq_true rfl) (Nat.le_of_ble_eq_true rfl) (by decide) (by decide) (d' := 6) (w' := 90) (by decide) (by decide) ?_
    show AW _ _ _ _ _ _ _ [(0, .ref (0)), (1, .int (nI (10 + d)))] _ _ _ _ _
    refine C_count_len hl wd dc wq qc wr.1 wr.2.1 rc hd ?_
    refine ab_af1 ?_
    refine aw_i2l d_LA_count_7 ?_
    refine aw_lastN d_LA_count_8 rfl (by decide) (by omega) ?_
    refine aw_goto (tgt := 15) d_LA_count_9 (by decide) ?_
    refine aw_iconst (v := nI 0) d_LA_count_15 (by decide) ?_
    refine aw_iret d_LA_count_16 rfl (by decide) (by decide) (ab_go1 ?_)
    refine aw_istore (lv' := [(6, .int (nI (0))), (5, .int (nI (i))), (0, .ref (71)), (1, .ref (0)), (2, .ref (57)), (3, .ref (69)), (4, .ref (70))]) d_LA_law_912 (by decide) rfl ?_
    refine aw_aload_n d_LA_law_914 rfl 4 rfl ?_
    refine aw_aload_n d_LA_law_915 rfl 2 rfl ?_
    refine aw_iload d_LA_law_916 1 rfl ?_
    refine aw_iconst (v := nI 1) d_LA_law_918 (by decide) ?_
    refine aw_iaddN d_LA_law_919 ?_
    refine aw_sld d_LA_law_920 (pk_in (i + 1) L (by omega)) ?_
    refine aw_eqi (nI (10 + d)) (by rw [nI_clamp (by omega), hx]) ?_
    refine aw_callV (K' := k_MO_count) (As := [.int (nI (10 + d))]) (rest := []) (b := 57) d_LA_law_921 rfl rfl rfl cs_LA_122 rfl (Nat.le_of_ble_eq_true rfl) (Nat.le_of_ble_eq_true rfl) (by show n1 + 1 + 0 ≤ 601024; omega) (by show n2 + 6 + 0 ≤ 7293034; omega) (d' := 1) (w' := 24) (by decide) (by decide) ?_
    show AW _ _ _ _ _ _ _ [(0, .ref (57)), (1, .int (nI (10 + d)))] _ _ _ _ _
    have r1 : RI D T S R (ab_sJ M (69) (0) (Int32.toInt64 (nI (dl D d)))) := RI_J ri
    refine R_count_len wd r1.1 wq r1.2.1 wr.1 wr.2.1 r1.2.2.2 hd ?_
    refine ab_go1 ?_
    refine aw_istore (lv' := [(7, .int (nI (dl D d))), (6, .int (nI (0))), (5, .int (nI (i))), (0, .ref (71)), (1, .ref (0)), (2, .ref (57)), (3, .ref (69)), (4, .ref (70))]) d_LA_law_924 (by decide) rfl ?_
    refine aw_aload_n d_LA_law_926 rfl 5 rfl ?_
    refine aw_callV (K' := k_MO_thrown) (As := []) (rest := []) (b := 57) d_LA_law_927 rfl rfl rfl cs_LA_71 rfl (Nat.le_of_ble_eq_true rfl) (Nat.le_of_ble_eq_true rfl) (by show n1 + 1 + 0 ≤ 601024; omega) (by show n2 + 6 + 0 ≤ 7293034; omega) (d' := 0) (w' := 0) (by decide) (by decide) ?_
    show AW _ _ _ _ _ _ _ [(0, .ref (57))] _ _ _ _ _
    refine aw_aload_n d_MO_thrown_0 rfl 0 rfl ?_
    refine aw_get (ic := 57) (ci := 6) (k := 0) d_MO_thrown_1 rfl rfl (by decide) rfl mw_775 rfl ?_
    refine aw_eqi (nI (0)) (sI_hit _ _ _ _) ?_
    refine aw_iret d_MO_thrown_4 rfl (by decide) (by decide) (ab_go1 ?_)
    refine aw_iload d_LA_law_930 1 rfl ?_
    refine aw_icmp_eqN (tgt := 937) d_LA_law_932 (by decide) (by omega) (by omega) (fun c1 => ?_) (fun c1 => ?_)
    · skip
      refine aw_iload d_LA_law_937 1 rfl ?_
      refine aw_if_neN (tgt := 954) d_LA_law_939 (by decide) (by omega) (fun c2 => ?_) (fun c2 => ?_)
      · skip
        exact absurd c2 (by decide)
      · skip
        refine aw_aload_n d_LA_law_942 rfl 6 rfl ?_
        refine aw_iconst (v := nI 0) d_LA_law_943 (by decide) ?_
        refine aw_laldN d_LA_law_944 rfl (by decide) (by omega) ?_
        refine aw_eql (Int32.toInt64 (nI (dl D d))) (sJ_thr _ _ _) ?_
        refine aw_iload d_LA_law_945 0 rfl ?_
        refine aw_i2l d_LA_law_947 ?_
        refine aw_lcmp d_LA_law_948 ?_
        refine aw_eqi (nI (0)) (lg_self _) ?_
        refine aw_if_eqN (tgt := 954) d_LA_law_949 (by decide) (by omega) (fun c3 => ?_) (fun c3 => ?_)
        · skip
          refine aw_goto (tgt := 957) d_LA_law_954 (by decide) ?_
          refine aw_pick [2, 3, 4, 5, 6, 7] rfl ?_
          exact hK D T S R _ ⟨hI.1, CI_thr (CI_J ci), RI_thr r1⟩
        · skip
          exact absurd c3 (by decide)
    · skip
      exfalso; omega
  · skip
    by_cases k2 : 30 ≤ (xs (i + 1)).toInt ∧ (xs (i + 1)).toInt ≤ 45
    · skip
      obtain ⟨v, hv, hx⟩ : ∃ v, v < 16 ∧ xs (i + 1) = nI (30 + v) := ⟨(xs (i + 1)).toInt.toNat - 30, by omega, by rw [show 30 + ((xs (i + 1)).toInt.toNat - 30) = (xs (i + 1)).toInt.toNat by omega]; exact i32_nat (by omega)⟩
      refine aw_aload_n d_LA_law_901 rfl 2 rfl ?_
      refine aw_aload_n d_LA_law_902 rfl 1 rfl ?_
      refine aw_iload d_LA_law_903 0 rfl ?_
      refine aw_iconst (v := nI 1) d_LA_law_905 (by decide) ?_
      refine aw_iaddN d_LA_law_906 ?_
      refine aw_sld d_LA_law_907 (pk_in (i + 1) L (by omega)) ?_
      refine aw_eqi (nI (30 + v)) (by rw [nI_clamp (by omega), hx]) ?_
      refine aw_aload_n d_LA_law_908 rfl 4 rfl ?_
      refine aw_callSW (K' := k_LA_count) (As := [.ref (0), .int (nI (30 + v)), .ref (69)]) (rest := []) d_LA_law_909 rfl (by decide) cs_LA_120 rfl (Nat.le_of_ble_eq_true rfl) (Nat.le_of_ble_eq_true rfl) (by show n1 + 1 ≤ 601024; omega) (by show n2 + 6 ≤ 7293034; omega) (d' := 7) (w' := 111) (by decide) (by decide) ?_
      show AW _ _ _ _ _ _ _ [(0, .ref (0)), (1, .int (nI (30 + v))), (2, .ref (69))] _ _ _ _ _
      refine aw_aload_n d_LA_count_0 rfl 2 rfl ?_
      refine aw_iconst (v := nI 0) d_LA_count_1 (by decide) ?_
      refine aw_aload_n d_LA_count_2 rfl 0 rfl ?_
      refine aw_iload_n d_LA_count_3 rfl 1 rfl ?_
      refine aw_callVX (K' := k_BF_count) (As := [.int (nI (30 + v))]) (rest := [.int (nI (0)), .ref (69)]) (b := 0) d_LA_count_4 rfl rfl rfl cs_LA_58 rfl (Nat.le_of_ble_eq_true rfl) (Nat.le_of_ble_eq_true rfl) (by decide) (by decide) (d' := 6) (w' := 90) (by decide) (by decide) ?_
      show AW _ _ _ _ _ _ _ [(0, .ref (0)), (1, .int (nI (30 + v)))] _ _ _ _ _
      refine C_count_word hl wd dc wq qc wr.1 wr.2.1 rc hv ?_
      refine ab_af1 ?_
      refine aw_i2l d_LA_count_7 ?_
      refine aw_lastN d_LA_count_8 rfl (by decide) (by omega) ?_
      refine aw_goto (tgt := 15) d_LA_count_9 (by decide) ?_
      refine aw_iconst (v := nI 0) d_LA_count_15 (by decide) ?_
      refine aw_iret d_LA_count_16 rfl (by decide) (by decide) (ab_go1 ?_)
      refine aw_istore (lv' := [(6, .int (nI (0))), (5, .int (nI (i))), (0, .ref (71)), (1, .ref (0)), (2, .ref (57)), (3, .ref (69)), (4, .ref (70))]) d_LA_law_912 (by decide) rfl ?_
      refine aw_aload_n d_LA_law_914 rfl 4 rfl ?_
      refine aw_aload_n d_LA_law_915 rfl 2 rfl ?_
      refine aw_iload d_LA_law_916 1 rfl ?_
      refine aw_iconst (v := nI 1) d_LA_law_918 (by decide) ?_
      refine aw_iaddN d_LA_law_919 ?_
      refine aw_sld d_LA_law_920 (pk_in (i + 1) L (by omega)) ?_
      refine aw_eqi (nI (30 + v)) (by rw [nI_clamp (by omega), hx]) ?_
      refine aw_callV (K' := k_MO_count) (As := [.int (nI (30 + v))]) (rest := []) (b := 57) d_LA_law_921 rfl rfl rfl cs_LA_122 rfl (Nat.le_of_ble_eq_true rfl) (Nat.le_of_ble_eq_true rfl) (by show n1 + 1 + 0 ≤ 601024; omega) (by show n2 + 6 + 0 ≤ 7293034; omega) (d' := 1) (w' := 24) (by decide) (by decide) ?_
      show AW _ _ _ _ _ _ _ [(0, .ref (57)), (1, .int (nI (30 + v)))] _ _ _ _ _
      have r1 : RI D T S R (ab_sJ M (69) (0) (Int32.toInt64 (nI (ps (fun e => cn (fw D e v) (dl D e)) (dn D))))) := RI_J ri
      refine R_count_word wd r1.1 wq r1.2.1 wr.1 wr.2.1 r1.2.2.2 hv ?_
      refine ab_go1 ?_
      refine aw_istore (lv' := [(7, .int (nI (ps (fun e => cn (fw D e v) (dl D e)) (dn D)))), (6, .int (nI (0))), (5, .int (nI (i))), (0, .ref (71)), (1, .ref (0)), (2, .ref (57)), (3, .ref (69)), (4, .ref (70))]) d_LA_law_924 (by decide) rfl ?_
      refine aw_aload_n d_LA_law_926 rfl 5 rfl ?_
      refine aw_callV (K' := k_MO_thrown) (As := []) (rest := []) (b := 57) d_LA_law_927 rfl rfl rfl cs_LA_71 rfl (Nat.le_of_ble_eq_true rfl) (Nat.le_of_ble_eq_true rfl) (by show n1 + 1 + 0 ≤ 601024; omega) (by show n2 + 6 + 0 ≤ 7293034; omega) (d' := 0) (w' := 0) (by decide) (by decide) ?_
      show AW _ _ _ _ _ _ _ [(0, .ref (57))] _ _ _ _ _
      refine aw_aload_n d_MO_thrown_0 rfl 0 rfl ?_
      refine aw_get (ic := 57) (ci := 6) (k := 0) d_MO_thrown_1 rfl rfl (by decide) rfl mw_775 rfl ?_
      refine aw_eqi (nI (0)) (sI_hit _ _ _ _) ?_
      refine aw_iret d_MO_thrown_4 rfl (by decide) (by decide) (ab_go1 ?_)
      refine aw_iload d_LA_law_930 1 rfl ?_
      refine aw_icmp_eqN (tgt := 937) d_LA_law_932 (by decide) (by omega) (by omega) (fun c1 => ?_) (fun c1 => ?_)
      · skip
        refine aw_iload d_LA_law_937 1 rfl ?_
        refine aw_if_neN (tgt := 954) d_LA_law_939 (by decide) (by omega) (fun c2 => ?_) (fun c2 => ?_)
        · skip
          exact absurd c2 (by decide)
        · skip
          refine aw_aload_n d_LA_law_942 rfl 6 rfl ?_
          refine aw_iconst (v := nI 0) d_LA_law_943 (by decide) ?_
          refine aw_laldN d_LA_law_944 rfl (by decide) (by omega) ?_
          refine aw_eql (Int32.toInt64 (nI (ps (fun e => cn (fw D e v) (dl D e)) (dn D)))) (sJ_thr _ _ _) ?_
          refine aw_iload d_LA_law_945 0 rfl ?_
          refine aw_i2l d_LA_law_947 ?_
          refine aw_lcmp d_LA_law_948 ?_
          refine aw_eqi (nI (0)) (lg_self _) ?_
          refine aw_if_eqN (tgt := 954) d_LA_law_949 (by decide) (by omega) (fun c3 => ?_) (fun c3 => ?_)
          · skip
            refine aw_goto (tgt := 957) d_LA_law_954 (by decide) ?_
            refine aw_pick [2, 3, 4, 5, 6, 7] rfl ?_
            exact hK D T S R _ ⟨hI.1, CI_thr (CI_J ci), RI_thr r1⟩
          · skip
            exact absurd c3 (by decide)
      · skip
        exfalso; omega
    · skip
      by_cases h0 : (xs (i + 1)).toInt = 0
      · skip
        have hx : xs (i + 1) = nI 0 := by have := i32_nat (s := xs (i + 1)) (by omega); rw [show (xs (i + 1)).toInt.toNat = 0 by omega] at this; exact this
        refine aw_aload_n d_LA_law_901 rfl 2 rfl ?_
        refine aw_aload_n d_LA_law_902 rfl 1 rfl ?_
        refine aw_iload d_LA_law_903 0 rfl ?_
        refine aw_iconst (v := nI 1) d_LA_law_905 (by decide) ?_
        refine aw_iaddN d_LA_law_906 ?_
        refine aw_sld d_LA_law_907 (pk_in (i + 1) L (by omega)) ?_
        refine aw_eqi (nI (0)) (by rw [nI_clamp (by omega), hx]) ?_
        refine aw_aload_n d_LA_law_908 rfl 4 rfl ?_
        refine aw_callSW (K' := k_LA_count) (As := [.ref (0), .int (nI (0)), .ref (69)]) (rest := []) d_LA_law_909 rfl (by decide) cs_LA_120 rfl (Nat.le_of_ble_eq_true rfl) (Nat.le_of_ble_eq_true rfl) (by show n1 + 1 ≤ 601024; omega) (by show n2 + 6 ≤ 7293034; omega) (d' := 7) (w' := 111) (by decide) (by decide) ?_
        show AW _ _ _ _ _ _ _ [(0, .ref (0)), (1, .int (nI (0))), (2, .ref (69))] _ _ _ _ _
        refine aw_aload_n d_LA_count_0 rfl 2 rfl ?_
        refine aw_iconst (v := nI 0) d_LA_count_1 (by decide) ?_
        refine aw_aload_n d_LA_count_2 rfl 0 rfl ?_
        refine aw_iload_n d_LA_count_3 rfl 1 rfl ?_
        refine aw_callVX (K' := k_BF_count) (As := [.int (nI (0))]) (rest := [.int (nI (0)), .ref (69)]) (b := 0) d_LA_count_4 rfl rfl rfl cs_LA_58 rfl (Nat.le_of_ble_eq_true rfl) (Nat.le_of_ble_eq_true rfl) (by decide) (by decide) (d' := 6) (w' := 90) (by decide) (by decide) ?_
        show AW _ _ _ _ _ _ _ [(0, .ref (0)), (1, .int (nI (0)))] _ _ _ _ _
        refine C_count0 hl wd dc wq qc wr.1 wr.2.1 rc ?_
        refine ab_af1 ?_
        refine aw_i2l d_LA_count_7 ?_
        refine aw_lastN d_LA_count_8 rfl (by decide) (by omega) ?_
        refine aw_goto (tgt := 15) d_LA_count_9 (by decide) ?_
        refine aw_iconst (v := nI 0) d_LA_count_15 (by decide) ?_
        refine aw_iret d_LA_count_16 rfl (by decide) (by decide) (ab_go1 ?_)
        refine aw_istore (lv' := [(6, .int (nI (0))), (5, .int (nI (i))), (0, .ref (71)), (1, .ref (0)), (2, .ref (57)), (3, .ref (69)), (4, .ref (70))]) d_LA_law_912 (by decide) rfl ?_
        refine aw_aload_n d_LA_law_914 rfl 4 rfl ?_
        refine aw_aload_n d_LA_law_915 rfl 2 rfl ?_
        refine aw_iload d_LA_law_916 1 rfl ?_
        refine aw_iconst (v := nI 1) d_LA_law_918 (by decide) ?_
        refine aw_iaddN d_LA_law_919 ?_
        refine aw_sld d_LA_law_920 (pk_in (i + 1) L (by omega)) ?_
        refine aw_eqi (nI (0)) (by rw [nI_clamp (by omega), hx]) ?_
        refine aw_callV (K' := k_MO_count) (As := [.int (nI (0))]) (rest := []) (b := 57) d_LA_law_921 rfl rfl rfl cs_LA_122 rfl (Nat.le_of_ble_eq_true rfl) (Nat.le_of_ble_eq_true rfl) (by show n1 + 1 + 0 ≤ 601024; omega) (by show n2 + 6 + 0 ≤ 7293034; omega) (d' := 1) (w' := 24) (by decide) (by decide) ?_
        show AW _ _ _ _ _ _ _ [(0, .ref (57)), (1, .int (nI (0)))] _ _ _ _ _
        have r1 : RI D T S R (ab_sJ M (69) (0) (Int32.toInt64 (nI (dn D)))) := RI_J ri
        refine R_count0 wd r1.1 wq r1.2.1 wr.1 wr.2.1 r1.2.2.2 ?_
        refine ab_go1 ?_
        refine aw_istore (lv' := [(7, .int (nI (dn D))), (6, .int (nI (0))), (5, .int (nI (i))), (0, .ref (71)), (1, .ref (0)), (2, .ref (57)), (3, .ref (69)), (4, .ref (70))]) d_LA_law_924 (by decide) rfl ?_
        refine aw_aload_n d_LA_law_926 rfl 5 rfl ?_
        refine aw_callV (K' := k_MO_thrown) (As := []) (rest := []) (b := 57) d_LA_law_927 rfl rfl rfl cs_LA_71 rfl (Nat.le_of_ble_eq_true rfl) (Nat.le_of_ble_eq_true rfl) (by show n1 + 1 + 0 ≤ 601024; omega) (by show n2 + 6 + 0 ≤ 7293034; omega) (d' := 0) (w' := 0) (by decide) (by decide) ?_
        show AW _ _ _ _ _ _ _ [(0, .ref (57))] _ _ _ _ _
        refine aw_aload_n d_MO_thrown_0 rfl 0 rfl ?_
        refine aw_get (ic := 57) (ci := 6) (k := 0) d_MO_thrown_1 rfl rfl (by decide) rfl mw_775 rfl ?_
        refine aw_eqi (nI (0)) (sI_hit _ _ _ _) ?_
        refine aw_iret d_MO_thrown_4 rfl (by decide) (by decide) (ab_go1 ?_)
        refine aw_iload d_LA_law_930 1 rfl ?_
        refine aw_icmp_eqN (tgt := 937) d_LA_law_932 (by decide) (by omega) (by omega) (fun c1 => ?_) (fun c1 => ?_)
        · skip
          refine aw_iload d_LA_law_937 1 rfl ?_
          refine aw_if_neN (tgt := 954) d_LA_law_939 (by decide) (by omega) (fun c2 => ?_) (fun c2 => ?_)
          · skip
            exact absurd c2 (by decide)
          · skip
            refine aw_aload_n d_LA_law_942 rfl 6 rfl ?_
            refine aw_iconst (v := nI 0) d_LA_law_943 (by decide) ?_
            refine aw_laldN d_LA_law_944 rfl (by decide) (by omega) ?_
            refine aw_eql (Int32.toInt64 (nI (dn D))) (sJ_thr _ _ _) ?_
            refine aw_iload d_LA_law_945 0 rfl ?_
            refine aw_i2l d_LA_law_947 ?_
            refine aw_lcmp d_LA_law_948 ?_
            refine aw_eqi (nI (0)) (lg_self _) ?_
            refine aw_if_eqN (tgt := 954) d_LA_law_949 (by decide) (by omega) (fun c3 => ?_) (fun c3 => ?_)
            · skip
              refine aw_goto (tgt := 957) d_LA_law_954 (by decide) ?_
              refine aw_pick [2, 3, 4, 5, 6, 7] rfl ?_
              exact hK D T S R _ ⟨hI.1, CI_thr (CI_J ci), RI_thr r1⟩
            · skip
              exact absurd c3 (by decide)
        · skip
          exfalso; omega
      · skip
        by_cases h1 : (xs (i + 1)).toInt = 1
        · skip
          have hx : xs (i + 1) = nI 1 := by have := i32_nat (s := xs (i + 1)) (by omega); rw [show (xs (i + 1)).toInt.toNat = 1 by omega] at this; exact this
          refine aw_aload_n d_LA_law_901 rfl 2 rfl ?_
          refine aw_aload_n d_LA_law_902 rfl 1 rfl ?_
          refine aw_iload d_LA_law_903 0 rfl ?_
          refine aw_iconst (v := nI 1) d_LA_law_905 (by decide) ?_
          refine aw_iaddN d_LA_law_906 ?_
          refine aw_sld d_LA_law_907 (pk_in (i + 1) L (by omega)) ?_
          refine aw_eqi (nI (1)) (by rw [nI_clamp (by omega), hx]) ?_
          refine aw_aload_n d_LA_law_908 rfl 4 rfl ?_
          refine aw_callSW (K' := k_LA_count) (As := [.ref (0), .int (nI (1)), .ref (69)]) (rest := []) d_LA_law_909 rfl (by decide) cs_LA_120 rfl (Nat.le_of_ble_eq_true rfl) (Nat.le_of_ble_eq_true rfl) (by show n1 + 1 ≤ 601024; omega) (by show n2 + 6 ≤ 7293034; omega) (d' := 7) (w' := 111) (by decide) (by decide) ?_
          show AW _ _ _ _ _ _ _ [(0, .ref (0)), (1, .int (nI (1))), (2, .ref (69))] _ _ _ _ _
          refine aw_aload_n d_LA_count_0 rfl 2 rfl ?_
          refine aw_iconst (v := nI 0) d_LA_count_1 (by decide) ?_
          refine aw_aload_n d_LA_count_2 rfl 0 rfl ?_
          refine aw_iload_n d_LA_count_3 rfl 1 rfl ?_
          refine aw_callVX (K' := k_BF_count) (As := [.int (nI (1))]) (rest := [.int (nI (0)), .ref (69)]) (b := 0) d_LA_count_4 rfl rfl rfl cs_LA_58 rfl (Nat.le_of_ble_eq_true rfl) (Nat.le_of_ble_eq_true rfl) (by decide) (by decide) (d' := 6) (w' := 90) (by decide) (by decide) ?_
          show AW _ _ _ _ _ _ _ [(0, .ref (0)), (1, .int (nI (1)))] _ _ _ _ _
          refine C_count1 hl wd dc wq qc wr.1 wr.2.1 rc ?_
          refine ab_af1 ?_
          refine aw_i2l d_LA_count_7 ?_
          refine aw_lastN d_LA_count_8 rfl (by decide) (by omega) ?_
          refine aw_goto (tgt := 15) d_LA_count_9 (by decide) ?_
          refine aw_iconst (v := nI 0) d_LA_count_15 (by decide) ?_
          refine aw_iret d_LA_count_16 rfl (by decide) (by decide) (ab_go1 ?_)
          refine aw_istore (lv' := [(6, .int (nI (0))), (5, .int (nI (i))), (0, .ref (71)), (1, .ref (0)), (2, .ref (57)), (3, .ref (69)), (4, .ref (70))]) d_LA_law_912 (by decide) rfl ?_
          refine aw_aload_n d_LA_law_914 rfl 4 rfl ?_
          refine aw_aload_n d_LA_law_915 rfl 2 rfl ?_
          refine aw_iload d_LA_law_916 1 rfl ?_
          refine aw_iconst (v := nI 1) d_LA_law_918 (by decide) ?_
          refine aw_iaddN d_LA_law_919 ?_
          refine aw_sld d_LA_law_920 (pk_in (i + 1) L (by omega)) ?_
          refine aw_eqi (nI (1)) (by rw [nI_clamp (by omega), hx]) ?_
          refine aw_callV (K' := k_MO_count) (As := [.int (nI (1))]) (rest := []) (b := 57) d_LA_law_921 rfl rfl rfl cs_LA_122 rfl (Nat.le_of_ble_eq_true rfl) (Nat.le_of_ble_eq_true rfl) (by show n1 + 1 + 0 ≤ 601024; omega) (by show n2 + 6 + 0 ≤ 7293034; omega) (d' := 1) (w' := 24) (by decide) (by decide) ?_
          show AW _ _ _ _ _ _ _ [(0, .ref (57)), (1, .int (nI (1)))] _ _ _ _ _
          have r1 : RI D T S R (ab_sJ M (69) (0) (Int32.toInt64 (nI (dall D)))) := RI_J ri
          refine R_count1 wd r1.1 wq r1.2.1 wr.1 wr.2.1 r1.2.2.2 ?_
          refine ab_go1 ?_
          refine aw_istore (lv' := [(7, .int (nI (dall D))), (6, .int (nI (0))), (5, .int (nI (i))), (0, .ref (71)), (1, .ref (0)), (2, .ref (57)), (3, .ref (69)), (4, .ref (70))]) d_LA_law_924 (by decide) rfl ?_
          refine aw_aload_n d_LA_law_926 rfl 5 rfl ?_
          refine aw_callV (K' := k_MO_thrown) (As := []) (rest := []) (b := 57) d_LA_law_927 rfl rfl rfl cs_LA_71 rfl (Nat.le_of_ble_eq_true rfl) (Nat.le_of_ble_eq_true rfl) (by show n1 + 1 + 0 ≤ 601024; omega) (by show n2 + 6 + 0 ≤ 7293034; omega) (d' := 0) (w' := 0) (by decide) (by decide) ?_
          show AW _ _ _ _ _ _ _ [(0, .ref (57))] _ _ _ _ _
          refine aw_aload_n d_MO_thrown_0 rfl 0 rfl ?_
          refine aw_get (ic := 57) (ci := 6) (k := 0) d_MO_thrown_1 rfl rfl (by decide) rfl mw_775 rfl ?_
          refine aw_eqi (nI (0)) (sI_hit _ _ _ _) ?_
          refine aw_iret d_MO_thrown_4 rfl (by decide) (by decide) (ab_go1 ?_)
          refine aw_iload d_LA_law_930 1 rfl ?_
          refine aw_icmp_eqN (tgt := 937) d_LA_law_932 (by decide) (by omega) (by omega) (fun c1 => ?_) (fun c1 => ?_)
          · skip
            refine aw_iload d_LA_law_937 1 rfl ?_
            refine aw_if_neN (tgt := 954) d_LA_law_939 (by decide) (by omega) (fun c2 => ?_) (fun c2 => ?_)
            · skip
              exact absurd c2 (by decide)
            · skip
              refine aw_aload_n d_LA_law_942 rfl 6 rfl ?_
              refine aw_iconst (v := nI 0) d_LA_law_943 (by decide) ?_
              refine aw_laldN d_LA_law_944 rfl (by decide) (by omega) ?_
              refine aw_eql (Int32.toInt64 (nI (dall D))) (sJ_thr _ _ _) ?_
              refine aw_iload d_LA_law_945 0 rfl ?_
              refine aw_i2l d_LA_law_947 ?_
              refine aw_lcmp d_LA_law_948 ?_
              refine aw_eqi (nI (0)) (lg_self _) ?_
              refine aw_if_eqN (tgt := 954) d_LA_law_949 (by decide) (by omega) (fun c3 => ?_) (fun c3 => ?_)
              · skip
                refine aw_goto (tgt := 957) d_LA_law_954 (by decide) ?_
                refine aw_pick [2, 3, 4, 5, 6, 7] rfl ?_
                exact hK D T S R _ ⟨hI.1, CI_thr (CI_J ci), RI_thr r1⟩
              · skip
                exact absurd c3 (by decide)
          · skip
            exfalso; omega
        · skip
          by_cases h2 : (xs (i + 1)).toInt = 2
          · skip
            have hx : xs (i + 1) = nI 2 := by have := i32_nat (s := xs (i + 1)) (by omega); rw [show (xs (i + 1)).toInt.toNat = 2 by omega] at this; exact this
            refine aw_aload_n d_LA_law_901 rfl 2 rfl ?_
            refine aw_aload_n d_LA_law_902 rfl 1 rfl ?_
            refine aw_iload d_LA_law_903 0 rfl ?_
            refine aw_iconst (v := nI 1) d_LA_law_905 (by decide) ?_
            refine aw_iaddN d_LA_law_906 ?_
            refine aw_sld d_LA_law_907 (pk_in (i + 1) L (by omega)) ?_
            refine aw_eqi (nI (2)) (by rw [nI_clamp (by omega), hx]) ?_
            refine aw_aload_n d_LA_law_908 rfl 4 rfl ?_
            refine aw_callSW (K' := k_LA_count) (As := [.ref (0), .int (nI (2)), .ref (69)]) (rest := []) d_LA_law_909 rfl (by decide) cs_LA_120 rfl (Nat.le_of_ble_eq_true rfl) (Nat.le_of_ble_eq_true rfl) (by show n1 + 1 ≤ 601024; omega) (by show n2 + 6 ≤ 7293034; omega) (d' := 7) (w' := 111) (by decide) (by decide) ?_
            show AW _ _ _ _ _ _ _ [(0, .ref (0)), (1, .int (nI (2))), (2, .ref (69))] _ _ _ _ _
            refine aw_aload_n d_LA_count_0 rfl 2 rfl ?_
            refine aw_iconst (v := nI 0) d_LA_count_1 (by decide) ?_
            refine aw_aload_n d_LA_count_2 rfl 0 rfl ?_
            refine aw_iload_n d_LA_count_3 rfl 1 rfl ?_
            refine aw_callVX (K' := k_BF_count) (As := [.int (nI (2))]) (rest := [.int (nI (0)), .ref (69)]) (b := 0) d_LA_count_4 rfl rfl rfl cs_LA_58 rfl (Nat.le_of_ble_eq_true rfl) (Nat.le_of_ble_eq_true rfl) (by decide) (by decide) (d' := 6) (w' := 90) (by decide) (by decide) ?_
            show AW _ _ _ _ _ _ _ [(0, .ref (0)), (1, .int (nI (2)))] _ _ _ _ _
            refine C_count2 hl wd dc wq qc wr.1 wr.2.1 rc ?_
            refine ab_af1 ?_
            refine aw_i2l d_LA_count_7 ?_
            refine aw_lastN d_LA_count_8 rfl (by decide) (by omega) ?_
            refine aw_goto (tgt := 15) d_LA_count_9 (by decide) ?_
            refine aw_iconst (v := nI 0) d_LA_count_15 (by decide) ?_
            refine aw_iret d_LA_count_16 rfl (by decide) (by decide) (ab_go1 ?_)
            refine aw_istore (lv' := [(6, .int (nI (0))), (5, .int (nI (i))), (0, .ref (71)), (1, .ref (0)), (2, .ref (57)), (3, .ref (69)), (4, .ref (70))]) d_LA_law_912 (by decide) rfl ?_
            refine aw_aload_n d_LA_law_914 rfl 4 rfl ?_
            refine aw_aload_n d_LA_law_915 rfl 2 rfl ?_
            refine aw_iload d_LA_law_916 1 rfl ?_
            refine aw_iconst (v := nI 1) d_LA_law_918 (by decide) ?_
            refine aw_iaddN d_LA_law_919 ?_
            refine aw_sld d_LA_law_920 (pk_in (i + 1) L (by omega)) ?_
            refine aw_eqi (nI (2)) (by rw [nI_clamp (by omega), hx]) ?_
            refine aw_callV (K' := k_MO_count) (As := [.int (nI (2))]) (rest := []) (b := 57) d_LA_law_921 rfl rfl rfl cs_LA_122 rfl (Nat.le_of_ble_eq_true rfl) (Nat.le_of_ble_eq_true rfl) (by show n1 + 1 + 0 ≤ 601024; omega) (by show n2 + 6 + 0 ≤ 7293034; omega) (d' := 1) (w' := 24) (by decide) (by decide) ?_
            show AW _ _ _ _ _ _ _ [(0, .ref (57)), (1, .int (nI (2)))] _ _ _ _ _
            have r1 : RI D T S R (ab_sJ M (69) (0) (Int32.toInt64 (nI (qn T)))) := RI_J ri
            refine R_count2 wd r1.1 wq r1.2.1 wr.1 wr.2.1 r1.2.2.2 ?_
            refine ab_go1 ?_
            refine aw_istore (lv' := [(7, .int (nI (qn T))), (6, .int (nI (0))), (5, .int (nI (i))), (0, .ref (71)), (1, .ref (0)), (2, .ref (57)), (3, .ref (69)), (4, .ref (70))]) d_LA_law_924 (by decide) rfl ?_
            refine aw_aload_n d_LA_law_926 rfl 5 rfl ?_
            refine aw_callV (K' := k_MO_thrown) (As := []) (rest := []) (b := 57) d_LA_law_927 rfl rfl rfl cs_LA_71 rfl (Nat.le_of_ble_eq_true rfl) (Nat.le_of_ble_eq_true rfl) (by show n1 + 1 + 0 ≤ 601024; omega) (by show n2 + 6 + 0 ≤ 7293034; omega) (d' := 0) (w' := 0) (by decide) (by decide) ?_
            show AW _ _ _ _ _ _ _ [(0, .ref (57))] _ _ _ _ _
            refine aw_aload_n d_MO_thrown_0 rfl 0 rfl ?_
            refine aw_get (ic := 57) (ci := 6) (k := 0) d_MO_thrown_1 rfl rfl (by decide) rfl mw_775 rfl ?_
            refine aw_eqi (nI (0)) (sI_hit _ _ _ _) ?_
            refine aw_iret d_MO_thrown_4 rfl (by decide) (by decide) (ab_go1 ?_)
            refine aw_iload d_LA_law_930 1 rfl ?_
            refine aw_icmp_eqN (tgt := 937) d_LA_law_932 (by decide) (by omega) (by omega) (fun c1 => ?_) (fun c1 => ?_)
            · skip
              refine aw_iload d_LA_law_937 1 rfl ?_
              refine aw_if_neN (tgt := 954) d_LA_law_939 (by decide) (by omega) (fun c2 => ?_) (fun c2 => ?_)
              · skip
                exact absurd c2 (by decide)
              · skip
                refine aw_aload_n d_LA_law_942 rfl 6 rfl ?_
                refine aw_iconst (v := nI 0) d_LA_law_943 (by decide) ?_
                refine aw_laldN d_LA_law_944 rfl (by decide) (by omega) ?_
                refine aw_eql (Int32.toInt64 (nI (qn T))) (sJ_thr _ _ _) ?_
                refine aw_iload d_LA_law_945 0 rfl ?_
                refine aw_i2l d_LA_law_947 ?_
                refine aw_lcmp d_LA_law_948 ?_
                refine aw_eqi (nI (0)) (lg_self _) ?_
                refine aw_if_eqN (tgt := 954) d_LA_law_949 (by decide) (by omega) (fun c3 => ?_) (fun c3 => ?_)
                · skip
                  refine aw_goto (tgt := 957) d_LA_law_954 (by decide) ?_
                  refine aw_pick [2, 3, 4, 5, 6, 7] rfl ?_
                  exact hK D T S R _ ⟨hI.1, CI_thr (CI_J ci), RI_thr r1⟩
                · skip
                  exact absurd c3 (by decide)
            · skip
              exfalso; omega
          · skip
            by_cases h3 : (xs (i + 1)).toInt = 3
            · skip
              have hx : xs (i + 1) = nI 3 := by have := i32_nat (s := xs (i + 1)) (by omega); rw [show (xs (i + 1)).toInt.toNat = 3 by omega] at this; exact this
              refine aw_aload_n d_LA_law_901 rfl 2 rfl ?_
              refine aw_aload_n d_LA_law_902 rfl 1 rfl ?_
              refine aw_iload d_LA_law_903 0 rfl ?_
              refine aw_iconst (v := nI 1) d_LA_law_905 (by decide) ?_
              refine aw_iaddN d_LA_law_906 ?_
              refine aw_sld d_LA_law_907 (pk_in (i + 1) L (by omega)) ?_
              refine aw_eqi (nI (3)) (by rw [nI_clamp (by omega), hx]) ?_
              refine aw_aload_n d_LA_law_908 rfl 4 rfl ?_
              refine aw_callSW (K' := k_LA_count) (As := [.ref (0), .int (nI (3)), .ref (69)]) (rest := []) d_LA_law_909 rfl (by decide) cs_LA_120 rfl (Nat.le_of_ble_eq_true rfl) (Nat.le_of_ble_eq_true rfl) (by show n1 + 1 ≤ 601024; omega) (by show n2 + 6 ≤ 7293034; omega) (d' := 7) (w' := 111) (by decide) (by decide) ?_
              show AW _ _ _ _ _ _ _ [(0, .ref (0)), (1, .int (nI (3))), (2, .ref (69))] _ _ _ _ _
              refine aw_aload_n d_LA_count_0 rfl 2 rfl ?_
              refine aw_iconst (v := nI 0) d_LA_count_1 (by decide) ?_
              refine aw_aload_n d_LA_count_2 rfl 0 rfl ?_
              refine aw_iload_n d_LA_count_3 rfl 1 rfl ?_
              refine aw_callVX (K' := k_BF_count) (As := [.int (nI (3))]) (rest := [.int (nI (0)), .ref (69)]) (b := 0) d_LA_count_4 rfl rfl rfl cs_LA_58 rfl (Nat.le_of_ble_eq_true rfl) (Nat.le_of_ble_eq_true rfl) (by decide) (by decide) (d' := 6) (w' := 90) (by decide) (by decide) ?_
              show AW _ _ _ _ _ _ _ [(0, .ref (0)), (1, .int (nI (3)))] _ _ _ _ _
              refine C_count3 hl wd dc wq qc wr.1 wr.2.1 rc ?_
              refine ab_af1 ?_
              refine aw_i2l d_LA_count_7 ?_
              refine aw_lastN d_LA_count_8 rfl (by decide) (by omega) ?_
              refine aw_goto (tgt := 15) d_LA_count_9 (by decide) ?_
              refine aw_iconst (v := nI 0) d_LA_count_15 (by decide) ?_
              refine aw_iret d_LA_count_16 rfl (by decide) (by decide) (ab_go1 ?_)
              refine aw_istore (lv' := [(6, .int (nI (0))), (5, .int (nI (i))), (0, .ref (71)), (1, .ref (0)), (2, .ref (57)), (3, .ref (69)), (4, .ref (70))]) d_LA_law_912 (by decide) rfl ?_
              refine aw_aload_n d_LA_law_914 rfl 4 rfl ?_
              refine aw_aload_n d_LA_law_915 rfl 2 rfl ?_
              refine aw_iload d_LA_law_916 1 rfl ?_
              refine aw_iconst (v := nI 1) d_LA_law_918 (by decide) ?_
              refine aw_iaddN d_LA_law_919 ?_
              refine aw_sld d_LA_law_920 (pk_in (i + 1) L (by omega)) ?_
              refine aw_eqi (nI (3)) (by rw [nI_clamp (by omega), hx]) ?_
              refine aw_callV (K' := k_MO_count) (As := [.int (nI (3))]) (rest := []) (b := 57) d_LA_law_921 rfl rfl rfl cs_LA_122 rfl (Nat.le_of_ble_eq_true rfl) (Nat.le_of_ble_eq_true rfl) (by show n1 + 1 + 0 ≤ 601024; omega) (by show n2 + 6 + 0 ≤ 7293034; omega) (d' := 1) (w' := 24) (by decide) (by decide) ?_
              show AW _ _ _ _ _ _ _ [(0, .ref (57)), (1, .int (nI (3)))] _ _ _ _ _
              have r1 : RI D T S R (ab_sJ M (69) (0) (Int32.toInt64 (nI (rn R)))) := RI_J ri
              refine R_count3 wd r1.1 wq r1.2.1 wr.1 wr.2.1 r1.2.2.2 ?_
              refine ab_go1 ?_
              refine aw_istore (lv' := [(7, .int (nI (rn R))), (6, .int (nI (0))), (5, .int (nI (i))), (0, .ref (71)), (1, .ref (0)), (2, .ref (57)), (3, .ref (69)), (4, .ref (70))]) d_LA_law_924 (by decide) rfl ?_
              refine aw_aload_n d_LA_law_926 rfl 5 rfl ?_
              refine aw_callV (K' := k_MO_thrown) (As := []) (rest := []) (b := 57) d_LA_law_927 rfl rfl rfl cs_LA_71 rfl (Nat.le_of_ble_eq_true rfl) (Nat.le_of_ble_eq_true rfl) (by show n1 + 1 + 0 ≤ 601024; omega) (by show n2 + 6 + 0 ≤ 7293034; omega) (d' := 0) (w' := 0) (by decide) (by decide) ?_
              show AW _ _ _ _ _ _ _ [(0, .ref (57))] _ _ _ _ _
              refine aw_aload_n d_MO_thrown_0 rfl 0 rfl ?_
              refine aw_get (ic := 57) (ci := 6) (k := 0) d_MO_thrown_1 rfl rfl (by decide) rfl mw_775 rfl ?_
              refine aw_eqi (nI (0)) (sI_hit _ _ _ _) ?_
              refine aw_iret d_MO_thrown_4 rfl (by decide) (by decide) (ab_go1 ?_)
              refine aw_iload d_LA_law_930 1 rfl ?_
              refine aw_icmp_eqN (tgt := 937) d_LA_law_932 (by decide) (by omega) (by omega) (fun c1 => ?_) (fun c1 => ?_)
              · skip
                refine aw_iload d_LA_law_937 1 rfl ?_
                refine aw_if_neN (tgt := 954) d_LA_law_939 (by decide) (by omega) (fun c2 => ?_) (fun c2 => ?_)
                · skip
                  exact absurd c2 (by decide)
                · skip
                  refine aw_aload_n d_LA_law_942 rfl 6 rfl ?_
                  refine aw_iconst (v := nI 0) d_LA_law_943 (by decide) ?_
                  refine aw_laldN d_LA_law_944 rfl (by decide) (by omega) ?_
                  refine aw_eql (Int32.toInt64 (nI (rn R))) (sJ_thr _ _ _) ?_
                  refine aw_iload d_LA_law_945 0 rfl ?_
                  refine aw_i2l d_LA_law_947 ?_
                  refine aw_lcmp d_LA_law_948 ?_
                  refine aw_eqi (nI (0)) (lg_self _) ?_
                  refine aw_if_eqN (tgt := 954) d_LA_law_949 (by decide) (by omega) (fun c3 => ?_) (fun c3 => ?_)
                  · skip
                    refine aw_goto (tgt := 957) d_LA_law_954 (by decide) ?_
                    refine aw_pick [2, 3, 4, 5, 6, 7] rfl ?_
                    exact hK D T S R _ ⟨hI.1, CI_thr (CI_J ci), RI_thr r1⟩
                  · skip
                    exact absurd c3 (by decide)
              · skip
                exfalso; omega
            · skip
              by_cases h4 : (xs (i + 1)).toInt = 4
              · skip
                have hx : xs (i + 1) = nI 4 := by have := i32_nat (s := xs (i + 1)) (by omega); rw [show (xs (i + 1)).toInt.toNat = 4 by omega] at this; exact this
                refine aw_aload_n d_LA_law_901 rfl 2 rfl ?_
                refine aw_aload_n d_LA_law_902 rfl 1 rfl ?_
                refine aw_iload d_LA_law_903 0 rfl ?_
                refine aw_iconst (v := nI 1) d_LA_law_905 (by decide) ?_
                refine aw_iaddN d_LA_law_906 ?_
                refine aw_sld d_LA_law_907 (pk_in (i + 1) L (by omega)) ?_
                refine aw_eqi (nI (4)) (by rw [nI_clamp (by omega), hx]) ?_
                refine aw_aload_n d_LA_law_908 rfl 4 rfl ?_
                refine aw_callSW (K' := k_LA_count) (As := [.ref (0), .int (nI (4)), .ref (69)]) (rest := []) d_LA_law_909 rfl (by decide) cs_LA_120 rfl (Nat.le_of_ble_eq_true rfl) (Nat.le_of_ble_eq_true rfl) (by show n1 + 1 ≤ 601024; omega) (by show n2 + 6 ≤ 7293034; omega) (d' := 7) (w' := 111) (by decide) (by decide) ?_
                show AW _ _ _ _ _ _ _ [(0, .ref (0)), (1, .int (nI (4))), (2, .ref (69))] _ _ _ _ _
                refine aw_aload_n d_LA_count_0 rfl 2 rfl ?_
                refine aw_iconst (v := nI 0) d_LA_count_1 (by decide) ?_
                refine aw_aload_n d_LA_count_2 rfl 0 rfl ?_
                refine aw_iload_n d_LA_count_3 rfl 1 rfl ?_
                refine aw_callVX (K' := k_BF_count) (As := [.int (nI (4))]) (rest := [.int (nI (0)), .ref (69)]) (b := 0) d_LA_count_4 rfl rfl rfl cs_LA_58 rfl (Nat.le_of_ble_eq_true rfl) (Nat.le_of_ble_eq_true rfl) (by decide) (by decide) (d' := 6) (w' := 90) (by decide) (by decide) ?_
                show AW _ _ _ _ _ _ _ [(0, .ref (0)), (1, .int (nI (4)))] _ _ _ _ _
                refine C_count4 hl wd dc wq qc wr.1 wr.2.1 rc ?_
                refine ab_af1 ?_
                refine aw_i2l d_LA_count_7 ?_
                refine aw_lastN d_LA_count_8 rfl (by decide) (by omega) ?_
                refine aw_goto (tgt := 15) d_LA_count_9 (by decide) ?_
                refine aw_iconst (v := nI 0) d_LA_count_15 (by decide) ?_
                refine aw_iret d_LA_count_16 rfl (by decide) (by decide) (ab_go1 ?_)
                refine aw_istore (lv' := [(6, .int (nI (0))), (5, .int (nI (i))), (0, .ref (71)), (1, .ref (0)), (2, .ref (57)), (3, .ref (69)), (4, .ref (70))]) d_LA_law_912 (by decide) rfl ?_
                refine aw_aload_n d_LA_law_914 rfl 4 rfl ?_
                refine aw_aload_n d_LA_law_915 rfl 2 rfl ?_
                refine aw_iload d_LA_law_916 1 rfl ?_
                refine aw_iconst (v := nI 1) d_LA_law_918 (by decide) ?_
                refine aw_iaddN d_LA_law_919 ?_
                refine aw_sld d_LA_law_920 (pk_in (i + 1) L (by omega)) ?_
                refine aw_eqi (nI (4)) (by rw [nI_clamp (by omega), hx]) ?_
                refine aw_callV (K' := k_MO_count) (As := [.int (nI (4))]) (rest := []) (b := 57) d_LA_law_921 rfl rfl rfl cs_LA_122 rfl (Nat.le_of_ble_eq_true rfl) (Nat.le_of_ble_eq_true rfl) (by show n1 + 1 + 0 ≤ 601024; omega) (by show n2 + 6 + 0 ≤ 7293034; omega) (d' := 1) (w' := 24) (by decide) (by decide) ?_
                show AW _ _ _ _ _ _ _ [(0, .ref (57)), (1, .int (nI (4)))] _ _ _ _ _
                have r1 : RI D T S R (ab_sJ M (69) (0) (Int32.toInt64 (nI (ro R)))) := RI_J ri
                refine R_count4 wd r1.1 wq r1.2.1 wr.1 wr.2.1 r1.2.2.2 ?_
                refine ab_go1 ?_
                refine aw_istore (lv' := [(7, .int (nI (ro R))), (6, .int (nI (0))), (5, .int (nI (i))), (0, .ref (71)), (1, .ref (0)), (2, .ref (57)), (3, .ref (69)), (4, .ref (70))]) d_LA_law_924 (by decide) rfl ?_
                refine aw_aload_n d_LA_law_926 rfl 5 rfl ?_
                refine aw_callV (K' := k_MO_thrown) (As := []) (rest := []) (b := 57) d_LA_law_927 rfl rfl rfl cs_LA_71 rfl (Nat.le_of_ble_eq_true rfl) (Nat.le_of_ble_eq_true rfl) (by show n1 + 1 + 0 ≤ 601024; omega) (by show n2 + 6 + 0 ≤ 7293034; omega) (d' := 0) (w' := 0) (by decide) (by decide) ?_
                show AW _ _ _ _ _ _ _ [(0, .ref (57))] _ _ _ _ _
                refine aw_aload_n d_MO_thrown_0 rfl 0 rfl ?_
                refine aw_get (ic := 57) (ci := 6) (k := 0) d_MO_thrown_1 rfl rfl (by decide) rfl mw_775 rfl ?_
                refine aw_eqi (nI (0)) (sI_hit _ _ _ _) ?_
                refine aw_iret d_MO_thrown_4 rfl (by decide) (by decide) (ab_go1 ?_)
                refine aw_iload d_LA_law_930 1 rfl ?_
                refine aw_icmp_eqN (tgt := 937) d_LA_law_932 (by decide) (by omega) (by omega) (fun c1 => ?_) (fun c1 => ?_)
                · skip
                  refine aw_iload d_LA_law_937 1 rfl ?_
                  refine aw_if_neN (tgt := 954) d_LA_law_939 (by decide) (by omega) (fun c2 => ?_) (fun c2 => ?_)
                  · skip
                    exact absurd c2 (by decide)
                  · skip
                    refine aw_aload_n d_LA_law_942 rfl 6 rfl ?_
                    refine aw_iconst (v := nI 0) d_LA_law_943 (by decide) ?_
                    refine aw_laldN d_LA_law_944 rfl (by decide) (by omega) ?_
                    refine aw_eql (Int32.toInt64 (nI (ro R))) (sJ_thr _ _ _) ?_
                    refine aw_iload d_LA_law_945 0 rfl ?_
                    refine aw_i2l d_LA_law_947 ?_
                    refine aw_lcmp d_LA_law_948 ?_
                    refine aw_eqi (nI (0)) (lg_self _) ?_
                    refine aw_if_eqN (tgt := 954) d_LA_law_949 (by decide) (by omega) (fun c3 => ?_) (fun c3 => ?_)
                    · skip
                      refine aw_goto (tgt := 957) d_LA_law_954 (by decide) ?_
                      refine aw_pick [2, 3, 4, 5, 6, 7] rfl ?_
                      exact hK D T S R _ ⟨hI.1, CI_thr (CI_J ci), RI_thr r1⟩
                    · skip
                      exact absurd c3 (by decide)
                · skip
                  exfalso; omega
              · skip
                refine aw_aload_n d_LA_law_901 rfl 2 rfl ?_
                refine aw_aload_n d_LA_law_902 rfl 1 rfl ?_
                refine aw_iload d_LA_law_903 0 rfl ?_
                refine aw_iconst (v := nI 1) d_LA_law_905 (by decide) ?_
                refine aw_iaddN d_LA_law_906 ?_
                refine aw_sld d_LA_law_907 (pk_in (i + 1) L (by omega)) ?_
                refine aw_eqi (xs (i + 1)) (by rw [nI_clamp (by omega)]) ?_
                refine aw_aload_n d_LA_law_908 rfl 4 rfl ?_
                refine aw_callSW (K' := k_LA_count) (As := [.ref (0), .int (xs (i + 1)), .ref (69)]) (rest := []) d_LA_law_909 rfl (by decide) cs_LA_120 rfl (Nat.le_of_ble_eq_true rfl) (Nat.le_of_ble_eq_true rfl) (by show n1 + 1 ≤ 601024; omega) (by show n2 + 6 ≤ 7293034; omega) (d' := 7) (w' := 111) (by decide) (by decide) ?_
                show AW _ _ _ _ _ _ _ [(0, .ref (0)), (1, .int (xs (i + 1))), (2, .ref (69))] _ _ _ _ _
                refine aw_aload_n d_LA_count_0 rfl 2 rfl ?_
                refine aw_iconst (v := nI 0) d_LA_count_1 (by decide) ?_
                refine aw_aload_n d_LA_count_2 rfl 0 rfl ?_
                refine aw_iload_n d_LA_count_3 rfl 1 rfl ?_
                refine aw_callVX (K' := k_BF_count) (As := [.int (xs (i + 1))]) (rest := [.int (nI (0)), .ref (69)]) (b := 0) d_LA_count_4 rfl rfl rfl cs_LA_58 rfl (Nat.le_of_ble_eq_true rfl) (Nat.le_of_ble_eq_true rfl) (by decide) (by decide) (d' := 6) (w' := 90) (by decide) (by decide) ?_
                show AW _ _ _ _ _ _ _ [(0, .ref (0)), (1, .int (xs (i + 1)))] _ _ _ _ _
                refine C_count_bad hl wd dc wq qc wr.1 wr.2.1 rc (by omega) (by omega) (by omega) ?_
                refine ab_afx1 (k := 3) ct_count_IAE (by decide) d_LA_count_12 rfl ?_
                show AW _ _ _ _ _ _ 13 [(0, .ref (0)), (1, .int (xs (i + 1))), (2, .ref (69))] _ _ _ _ _
                refine aw_iconst (v := nI 1) d_LA_count_13 (by decide) ?_
                refine aw_iret d_LA_count_14 rfl (by decide) (by decide) (ab_go1 ?_)
                refine aw_istore (lv' := [(6, .int (nI (1))), (5, .int (nI (i))), (0, .ref (71)), (1, .ref (0)), (2, .ref (57)), (3, .ref (69)), (4, .ref (70))]) d_LA_law_912 (by decide) rfl ?_
                refine aw_aload_n d_LA_law_914 rfl 4 rfl ?_
                refine aw_aload_n d_LA_law_915 rfl 2 rfl ?_
                refine aw_iload d_LA_law_916 1 rfl ?_
                refine aw_iconst (v := nI 1) d_LA_law_918 (by decide) ?_
                refine aw_iaddN d_LA_law_919 ?_
                refine aw_sld d_LA_law_920 (pk_in (i + 1) L (by omega)) ?_
                refine aw_eqi (xs (i + 1)) (by rw [nI_clamp (by omega)]) ?_
                refine aw_callV (K' := k_MO_count) (As := [.int (xs (i + 1))]) (rest := []) (b := 57) d_LA_law_921 rfl rfl rfl cs_LA_122 rfl (Nat.le_of_ble_eq_true rfl) (Nat.le_of_ble_eq_true rfl) (by show n1 + 1 + 0 ≤ 601024; omega) (by show n2 + 6 + 0 ≤ 7293034; omega) (d' := 1) (w' := 24) (by decide) (by decide) ?_
                show AW _ _ _ _ _ _ _ [(0, .ref (57)), (1, .int (xs (i + 1)))] _ _ _ _ _
                refine R_count_bad wd ri.1 wq ri.2.1 wr.1 wr.2.1 ri.2.2.2 (by omega) (by omega) (by omega) ?_
                refine ab_go1 ?_
                refine aw_istore (lv' := [(7, .int (nI (0))), (6, .int (nI (1))), (5, .int (nI (i))), (0, .ref (71)), (1, .ref (0)), (2, .ref (57)), (3, .ref (69)), (4, .ref (70))]) d_LA_law_924 (by decide) rfl ?_
                refine aw_aload_n d_LA_law_926 rfl 5 rfl ?_
                refine aw_callV (K' := k_MO_thrown) (As := []) (rest := []) (b := 57) d_LA_law_927 rfl rfl rfl cs_LA_71 rfl (Nat.le_of_ble_eq_true rfl) (Nat.le_of_ble_eq_true rfl) (by show n1 + 1 + 0 ≤ 601024; omega) (by show n2 + 6 + 0 ≤ 7293034; omega) (d' := 0) (w' := 0) (by decide) (by decide) ?_
                show AW _ _ _ _ _ _ _ [(0, .ref (57))] _ _ _ _ _
                refine aw_aload_n d_MO_thrown_0 rfl 0 rfl ?_
                refine aw_get (ic := 57) (ci := 6) (k := 0) d_MO_thrown_1 rfl rfl (by decide) rfl mw_775 rfl ?_
                refine aw_eqi (nI (1)) (sI_hit _ _ _ _) ?_
                refine aw_iret d_MO_thrown_4 rfl (by decide) (by decide) (ab_go1 ?_)
                refine aw_iload d_LA_law_930 1 rfl ?_
                refine aw_icmp_eqN (tgt := 937) d_LA_law_932 (by decide) (by omega) (by omega) (fun c1 => ?_) (fun c1 => ?_)
                · skip
                  refine aw_iload d_LA_law_937 1 rfl ?_
                  refine aw_if_neN (tgt := 954) d_LA_law_939 (by decide) (by omega) (fun c2 => ?_) (fun c2 => ?_)
                  · skip
                    refine aw_goto (tgt := 957) d_LA_law_954 (by decide) ?_
                    refine aw_pick [2, 3, 4, 5, 6, 7] rfl ?_
                    exact hK D T S R _ ⟨hI.1, CI_thr (c := 1) (CI_thr ci), RI_thr (c := 1) (RI_thr ri)⟩
                  · skip
                    exact absurd c2 (by decide)
                · skip
                  exfalso; omega
