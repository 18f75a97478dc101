/-! the DOCUMENTS: what the class and the reference read of them (rows laid by gen/m1.py) -/
def bN (b : Bool) : Nat := if b then 1 else 0
theorem nI_dec {n : Nat} (h : 1 ≤ n) : nI n + Int32.ofInt (-1) = nI (n - 1) := by
  obtain ⟨k, rfl⟩ : ∃ k, n = k + 1 := ⟨n - 1, by omega⟩
  exact pk_m1 k
theorem bN_z (b : Bool) : nI (bN b) = 0 ∨ nI (bN b) = 1 := nI_b b
section AB
variable {Y : ab_Y} {l : Launch} {Z : (Nat → Nat) → State → Prop} {K : ab_K} {d w pc : Nat} {lv : List (Nat × Value)} {st : List Value} {M : ab_M} {n1 n2 : Nat} {Q : ab_O → ab_M → Prop}
theorem aw_if_eqB {b : Bool} {off : Int} {tgt : Nat} (hd : decode (kB K) pc = .ok (.ifCond .eq off, 3)) (ht : (pc : Int) + off = (tgt : Int)) (kt : b = false → AW Y l Z K d w tgt lv st M n1 n2 Q) (kf : b = true → AW Y l Z K d w (pc + 3) lv st M n1 n2 Q) : AW Y l Z K d w pc lv (.int (nI (bN b)) :: st) M n1 n2 Q :=
  aw_if_eqN hd ht (by cases b <;> decide) (fun h => kt (by cases b; rfl; cases h)) (fun h => kf (by cases b; cases h; rfl))
theorem aw_if_neB {b : Bool} {off : Int} {tgt : Nat} (hd : decode (kB K) pc = .ok (.ifCond .ne off, 3)) (ht : (pc : Int) + off = (tgt : Int)) (kt : b = true → AW Y l Z K d w tgt lv st M n1 n2 Q) (kf : b = false → AW Y l Z K d w (pc + 3) lv st M n1 n2 Q) : AW Y l Z K d w pc lv (.int (nI (bN b)) :: st) M n1 n2 Q :=
  aw_if_neN hd ht (by cases b <;> decide) (fun h => kt (by cases b; cases h; rfl)) (fun h => kf (by cases b; rfl; cases h))
end AB
theorem q_n {Q : ab_O → ab_M → Prop} {M : ab_M} {a b : Nat} (e : a = b) (h : Q (.inl (some (.int (nI b)))) M) : Q (.inl (some (.int (nI a)))) M := e ▸ h
theorem q_b {Q : ab_O → ab_M → Prop} {M : ab_M} {a : Nat} {b c : Bool} (e : b = c) (ha : a = bN c) (h : Q (.inl (some (.int (nI (bN b)))) ) M) : Q (.inl (some (.int (nI a)))) M := by rw [ha, ← e]; exact h
theorem q_d {Q : ab_O → ab_M → Prop} {M : ab_M} {a b : UInt64} (e : a = b) (h : Q (.inl (some (.double b))) M) : Q (.inl (some (.double a))) M := e ▸ h
/-- a word at a place -/
def fw (D : Dg) (d w : Nat) : Nat → Bool := fun p => dw D d p == w
theorem fw_t {D : Dg} {d w p : Nat} (h : dw D d p = w) : fw D d w p = true := by simp [fw, h]
theorem fw_f {D : Dg} {d w p : Nat} (h : dw D d p ≠ w) : fw D d w p = false := by simp [fw, h]
def std (D : Dg) (w d p : Nat) : Bool := decide (p < dl D d) && fw D d w p

set_option maxRecDepth 4000 in
theorem A_TX_stands {l : Launch} {M : ab_M} {Q : ab_O → ab_M → Prop} {D : Dg} (wd : wD D) (dc : iDC D M) {d w : Nat} (hd : d < 12) (hw : w < 16) {p : Nat} (hp : p < 2147483648) (hQ : Q (.inl (some (.int (nI (bN (std D w d p)))))) M) : AW sys l ab_Zt k_TX_stands 0 0 0 [(0, .ref (1)), (1, .int (nI (w))), (2, .int (nI (d))), (3, .int (nI (p)))] [] M 0 0 Q := by
  have hl := wd.2.1 d
  have hx := wd.2.2.2.1 d p
  refine aw_iload_n d_TX_stands_0 rfl 3 rfl ?_
  refine aw_aload_n d_TX_stands_1 rfl 0 rfl ?_
  refine aw_get (ic := 1) (ci := 1) (k := 1) d_TX_stands_2 rfl rfl (by decide) rfl mw_70 rfl ?_
  refine aw_iload_n d_TX_stands_5 rfl 2 rfl ?_
  refine aw_ialdN d_TX_stands_6 rfl (by decide) (by omega) ?_
  refine aw_eqi (nI (dl D d)) (dc.2.2.1 _ (by omega)) ?_
  refine aw_icmp_geN (tgt := 26) d_TX_stands_7 (by decide) (by omega) (by omega) (fun c1 => ?_) (fun c1 => ?_)
  · skip
    refine aw_iconst (v := nI 0) d_TX_stands_26 (by decide) ?_
    refine aw_zret (Or.inl rfl) d_TX_stands_27 rfl (by decide) (by decide) ?_
    exact q_b (c := false) (by simp only [std]; rw [decide_eq_false (by omega)]; rfl) rfl hQ
  · skip
    refine aw_aload_n d_TX_stands_10 rfl 0 rfl ?_
    refine aw_get (ic := 1) (ci := 1) (k := 0) d_TX_stands_11 rfl rfl (by decide) rfl mw_69 rfl ?_
    refine aw_iload_n d_TX_stands_14 rfl 2 rfl ?_
    refine aw_aaldN d_TX_stands_15 rfl (by decide) (by omega) ?_
    refine aw_iload_n d_TX_stands_16 rfl 3 rfl ?_
    refine aw_ialdN d_TX_stands_17 (L_words (by omega)) (by decide) (by omega) ?_
    refine aw_eqi (nI (dw D d p)) (dc.2.2.2.1 _ _ (by omega) (by omega)) ?_
    refine aw_iload_n d_TX_stands_18 rfl 1 rfl ?_
    refine aw_icmp_neN (tgt := 26) d_TX_stands_19 (by decide) (by omega) (by omega) (fun c2 => ?_) (fun c2 => ?_)
    · skip
      refine aw_iconst (v := nI 0) d_TX_stands_26 (by decide) ?_
      refine aw_zret (Or.inl rfl) d_TX_stands_27 rfl (by decide) (by decide) ?_
      exact q_b (c := false) (by simp only [std]; rw [fw_f c2]; simp) rfl hQ
    · skip
      refine aw_iconst (v := nI 1) d_TX_stands_22 (by decide) ?_
      refine aw_goto (tgt := 27) d_TX_stands_23 (by decide) ?_
      refine aw_zret (Or.inr rfl) d_TX_stands_27 rfl (by decide) (by decide) ?_
      exact q_b (c := true) (by simp only [std]; rw [fw_t c2, decide_eq_true c1]; rfl) rfl hQ
set_option maxRecDepth 4000 in
theorem A_TX_next_loop {l : Launch} {M : ab_M} {Q : ab_O → ab_M → Prop} {D : Dg} (wd : wD D) (dc : iDC D M) {d w : Nat} (hd : d < 12) (hw : w < 16) {q : Nat} : ∀ (k : Nat) (p : Nat), 24 - p = k → (hp : p < 50) → (hQ : Q (.inl (some (.int (nI (if nx (fw D d w) (dl D d) p < dl D d then nx (fw D d w) (dl D d) p else 48))))) M) → AW sys l ab_Zt k_TX_nextPlace 0 0 3 [(4, .int (nI (p))), (0, .ref (1)), (1, .int (nI (w))), (2, .int (nI (d))), (3, .int (nI (q)))] [] M 0 0 Q := by
  intro k
  induction k using Nat.strongRecOn with
  | ind k ih =>
    intro p hk hp hQ
    have hl := wd.2.1 d
    have hx := wd.2.2.2.1 d p
    refine aw_iload d_TX_nextPlace_3 0 rfl ?_
    refine aw_aload_n d_TX_nextPlace_5 rfl 1 rfl ?_
    refine aw_get (ic := 1) (ci := 1) (k := 1) d_TX_nextPlace_6 rfl rfl (by decide) rfl mw_70 rfl ?_
    refine aw_iload_n d_TX_nextPlace_9 rfl 3 rfl ?_
    refine aw_ialdN d_TX_nextPlace_10 rfl (by decide) (by omega) ?_
    refine aw_eqi (nI (dl D d)) (dc.2.2.1 _ (by omega)) ?_
    refine aw_icmp_geN (tgt := 33) d_TX_nextPlace_11 (by decide) (by omega) (by omega) (fun c1 => ?_) (fun c1 => ?_)
    · skip
      refine aw_iload d_TX_nextPlace_33 0 rfl ?_
      refine aw_aload_n d_TX_nextPlace_35 rfl 1 rfl ?_
      refine aw_get (ic := 1) (ci := 1) (k := 1) d_TX_nextPlace_36 rfl rfl (by decide) rfl mw_70 rfl ?_
      refine aw_iload_n d_TX_nextPlace_39 rfl 3 rfl ?_
      refine aw_ialdN d_TX_nextPlace_40 rfl (by decide) (by omega) ?_
      refine aw_eqi (nI (dl D d)) (dc.2.2.1 _ (by omega)) ?_
      refine aw_icmp_geN (tgt := 49) d_TX_nextPlace_41 (by decide) (by omega) (by omega) (fun c2 => ?_) (fun c2 => ?_)
      · skip
        refine aw_bipush (v := nI 48) d_TX_nextPlace_49 (by decide) ?_
        refine aw_iret d_TX_nextPlace_51 rfl (by decide) (by decide) ?_
        first | (exfalso; omega) | (rw [nx_end (by omega), if_neg (by omega)] at hQ; exact hQ)
      · skip
        refine aw_iload d_TX_nextPlace_44 0 rfl ?_
        refine aw_goto (tgt := 51) d_TX_nextPlace_46 (by decide) ?_
        refine aw_iret d_TX_nextPlace_51 rfl (by decide) (by decide) ?_
        first | (exfalso; omega) | (rw [nx_hit (by omega) (fw_t (by omega)), if_pos (by omega)] at hQ; exact hQ)
    · skip
      refine aw_aload_n d_TX_nextPlace_14 rfl 1 rfl ?_
      refine aw_get (ic := 1) (ci := 1) (k := 0) d_TX_nextPlace_15 rfl rfl (by decide) rfl mw_69 rfl ?_
      refine aw_iload_n d_TX_nextPlace_18 rfl 3 rfl ?_
      refine aw_aaldN d_TX_nextPlace_19 rfl (by decide) (by omega) ?_
      refine aw_iload d_TX_nextPlace_20 0 rfl ?_
      refine aw_ialdN d_TX_nextPlace_22 (L_words (by omega)) (by decide) (by omega) ?_
      refine aw_eqi (nI (dw D d p)) (dc.2.2.2.1 _ _ (by omega) (by omega)) ?_
      refine aw_iload_n d_TX_nextPlace_23 rfl 2 rfl ?_
      refine aw_icmp_eqN (tgt := 33) d_TX_nextPlace_24 (by decide) (by omega) (by omega) (fun c3 => ?_) (fun c3 => ?_)
      · skip
        refine aw_iload d_TX_nextPlace_33 0 rfl ?_
        refine aw_aload_n d_TX_nextPlace_35 rfl 1 rfl ?_
        refine aw_get (ic := 1) (ci := 1) (k := 1) d_TX_nextPlace_36 rfl rfl (by decide) rfl mw_70 rfl ?_
        refine aw_iload_n d_TX_nextPlace_39 rfl 3 rfl ?_
        refine aw_ialdN d_TX_nextPlace_40 rfl (by decide) (by omega) ?_
        refine aw_eqi (nI (dl D d)) (dc.2.2.1 _ (by omega)) ?_
        refine aw_icmp_geN (tgt := 49) d_TX_nextPlace_41 (by decide) (by omega) (by omega) (fun c4 => ?_) (fun c4 => ?_)
        · skip
          refine aw_bipush (v := nI 48) d_TX_nextPlace_49 (by decide) ?_
          refine aw_iret d_TX_nextPlace_51 rfl (by decide) (by decide) ?_
          first | (exfalso; omega) | (rw [nx_end (by omega), if_neg (by omega)] at hQ; exact hQ)
        · skip
          refine aw_iload d_TX_nextPlace_44 0 rfl ?_
          refine aw_goto (tgt := 51) d_TX_nextPlace_46 (by decide) ?_
          refine aw_iret d_TX_nextPlace_51 rfl (by decide) (by decide) ?_
          first | (exfalso; omega) | (rw [nx_hit (by omega) (fw_t (by omega)), if_pos (by omega)] at hQ; exact hQ)
      · skip
        refine aw_iinc (v := (nI (p + 1))) (lv' := [(4, .int (nI (p + 1))), (0, .ref (1)), (1, .int (nI (w))), (2, .int (nI (d))), (3, .int (nI (q)))]) d_TX_nextPlace_27 (j := 0) rfl (nI_add (p) 1) (by decide) rfl ?_
        refine aw_goto (tgt := 3) d_TX_nextPlace_30 (by decide) ?_
        exact ih _ (by omega) (p + 1) rfl (by omega) (by rw [nx_go (by omega) (fw_f c3)] at hQ; exact hQ)
set_option maxRecDepth 4000 in
theorem A_TX_nextPlace {l : Launch} {M : ab_M} {Q : ab_O → ab_M → Prop} {D : Dg} (wd : wD D) (dc : iDC D M) {d w : Nat} (hd : d < 12) (hw : w < 16) {p : Nat} (hp : p < 50) (hQ : Q (.inl (some (.int (nI (if nx (fw D d w) (dl D d) p < dl D d then nx (fw D d w) (dl D d) p else 48))))) M) : AW sys l ab_Zt k_TX_nextPlace 0 0 0 [(0, .ref (1)), (1, .int (nI (w))), (2, .int (nI (d))), (3, .int (nI (p)))] [] M 0 0 Q := by
  refine aw_iload_n d_TX_nextPlace_0 rfl 3 rfl ?_
  refine aw_istore (lv' := [(4, .int (nI (p))), (0, .ref (1)), (1, .int (nI (w))), (2, .int (nI (d))), (3, .int (nI (p)))]) d_TX_nextPlace_1 (by decide) rfl ?_
  exact A_TX_next_loop wd dc hd hw _ p rfl hp hQ
set_option maxRecDepth 4000 in
theorem A_TX_timesIn_loop {l : Launch} {M : ab_M} {Q : ab_O → ab_M → Prop} {D : Dg} (wd : wD D) (dc : iDC D M) {d w : Nat} (hd : d < 12) (hw : w < 16) (hQ : Q (.inl (some (.int (nI (cn (fw D d w) (dl D d)))))) M) : ∀ (k : Nat) (p : Nat), 24 - p = k → (hp : p ≤ dl D d) → AW sys l ab_Zt k_TX_timesIn 0 0 5 [(4, .int (nI (p))), (3, .int (nI (cn (fw D d w) p))), (0, .ref (1)), (1, .int (nI (w))), (2, .int (nI (d)))] [] M 0 0 Q := by
  intro k
  induction k using Nat.strongRecOn with
  | ind k ih =>
    intro p hk hp
    have hl := wd.2.1 d
    have hx := wd.2.2.2.1 d p
    refine aw_iload d_TX_timesIn_5 0 rfl ?_
    refine aw_aload_n d_TX_timesIn_7 rfl 2 rfl ?_
    refine aw_get (ic := 1) (ci := 1) (k := 1) d_TX_timesIn_8 rfl rfl (by decide) rfl mw_70 rfl ?_
    refine aw_iload_n d_TX_timesIn_11 rfl 4 rfl ?_
    refine aw_ialdN d_TX_timesIn_12 rfl (by decide) (by omega) ?_
    refine aw_eqi (nI (dl D d)) (dc.2.2.1 _ (by omega)) ?_
    refine aw_icmp_geN (tgt := 38) d_TX_timesIn_13 (by decide) (by omega) (by omega) (fun c1 => ?_) (fun c1 => ?_)
    · skip
      refine aw_iload_n d_TX_timesIn_38 rfl 1 rfl ?_
      refine aw_iret d_TX_timesIn_39 rfl (by decide) (by decide) ?_
      exact q_n (by rw [show p = dl D d by omega]) hQ
    · skip
      refine aw_aload_n d_TX_timesIn_16 rfl 2 rfl ?_
      refine aw_get (ic := 1) (ci := 1) (k := 0) d_TX_timesIn_17 rfl rfl (by decide) rfl mw_69 rfl ?_
      refine aw_iload_n d_TX_timesIn_20 rfl 4 rfl ?_
      refine aw_aaldN d_TX_timesIn_21 rfl (by decide) (by omega) ?_
      refine aw_iload d_TX_timesIn_22 0 rfl ?_
      refine aw_ialdN d_TX_timesIn_24 (L_words (by omega)) (by decide) (by omega) ?_
      refine aw_eqi (nI (dw D d p)) (dc.2.2.2.1 _ _ (by omega) (by omega)) ?_
      refine aw_iload_n d_TX_timesIn_25 rfl 3 rfl ?_
      refine aw_icmp_neN (tgt := 32) d_TX_timesIn_26 (by decide) (by omega) (by omega) (fun c2 => ?_) (fun c2 => ?_)
      · skip
        refine aw_iinc (v := (nI (p + 1))) (lv' := [(4, .int (nI (p + 1))), (3, .int (nI (cn (fw D d w) p))), (0, .ref (1)), (1, .int (nI (w))), (2, .int (nI (d)))]) d_TX_timesIn_32 (j := 0) rfl (nI_add (p) 1) (by decide) rfl ?_
        refine aw_goto (tgt := 5) d_TX_timesIn_35 (by decide) ?_
        rw [show nI (cn (fw D d w) p) = nI (cn (fw D d w) (p + 1)) by simp only [cn]; rw [fw_f (by omega)]; rfl]
        exact ih _ (by omega) (p + 1) rfl (by omega)
      · skip
        refine aw_iinc (v := (nI ((cn (fw D d w) p) + 1))) (lv' := [(3, .int (nI ((cn (fw D d w) p) + 1))), (4, .int (nI (p))), (0, .ref (1)), (1, .int (nI (w))), (2, .int (nI (d)))]) d_TX_timesIn_29 (j := 1) rfl (nI_add (cn (fw D d w) p) 1) (by decide) rfl ?_
        refine aw_iinc (v := (nI (p + 1))) (lv' := [(4, .int (nI (p + 1))), (3, .int (nI ((cn (fw D d w) p) + 1))), (0, .ref (1)), (1, .int (nI (w))), (2, .int (nI (d)))]) d_TX_timesIn_32 (j := 1) rfl (nI_add (p) 1) (by decide) rfl ?_
        refine aw_goto (tgt := 5) d_TX_timesIn_35 (by decide) ?_
        rw [show nI ((cn (fw D d w) p) + 1) = nI (cn (fw D d w) (p + 1)) by simp only [cn]; rw [fw_t (by omega)]; rfl]
        exact ih _ (by omega) (p + 1) rfl (by omega)
set_option maxRecDepth 4000 in
theorem A_TX_timesIn {l : Launch} {M : ab_M} {Q : ab_O → ab_M → Prop} {D : Dg} (wd : wD D) (dc : iDC D M) {d w : Nat} (hd : d < 12) (hw : w < 16) (hQ : Q (.inl (some (.int (nI (cn (fw D d w) (dl D d)))))) M) : AW sys l ab_Zt k_TX_timesIn 0 0 0 [(0, .ref (1)), (1, .int (nI (w))), (2, .int (nI (d)))] [] M 0 0 Q := by
  refine aw_iconst (v := nI 0) d_TX_timesIn_0 (by decide) ?_
  refine aw_istore_n (lv' := [(3, .int (nI (0))), (0, .ref (1)), (1, .int (nI (w))), (2, .int (nI (d)))]) d_TX_timesIn_1 rfl (by decide) rfl ?_
  refine aw_iconst (v := nI 0) d_TX_timesIn_2 (by decide) ?_
  refine aw_istore (lv' := [(4, .int (nI (0))), (3, .int (nI (0))), (0, .ref (1)), (1, .int (nI (w))), (2, .int (nI (d)))]) d_TX_timesIn_3 (by decide) rfl ?_
  exact A_TX_timesIn_loop wd dc hd hw hQ _ 0 rfl (by omega)
set_option maxRecDepth 4000 in
theorem A_TX_all_loop {l : Launch} {M : ab_M} {Q : ab_O → ab_M → Prop} {D : Dg} (wd : wD D) (dc : iDC D M) {w : Nat} (hw : w < 16) (hQ : Q (.inl (some (.int (nI (ps (fun e => cn (fw D e w) (dl D e)) (dn D)))))) M) : ∀ (k : Nat) (p : Nat), 12 - p = k → (hp : p ≤ dn D) → AW sys l ab_Zt k_TX_timesInAll 1 24 4 [(3, .int (nI (p))), (2, .int (nI (ps (fun e => cn (fw D e w) (dl D e)) p))), (0, .ref (1)), (1, .int (nI (w)))] [] M 0 0 Q := by
  intro k
  induction k using Nat.strongRecOn with
  | ind k ih =>
    intro p hk hp
    have h12 := wd.1
    refine aw_iload_n d_TX_timesInAll_4 rfl 0 rfl ?_
    refine aw_aload_n d_TX_timesInAll_5 rfl 2 rfl ?_
    refine aw_get (ic := 1) (ci := 1) (k := 3) d_TX_timesInAll_6 rfl rfl (by decide) rfl mw_72 rfl ?_
    refine aw_eqi (nI (dn D)) dc.1 ?_
    refine aw_icmp_geN (tgt := 27) d_TX_timesInAll_9 (by decide) (by omega) (by omega) (fun c1 => ?_) (fun c1 => ?_)
    · skip
      refine aw_iload_n d_TX_timesInAll_27 rfl 1 rfl ?_
      refine aw_iret d_TX_timesInAll_28 rfl (by decide) (by decide) ?_
      exact q_n (by rw [show p = dn D by omega]) hQ
    · skip
      refine aw_iload_n d_TX_timesInAll_12 rfl 1 rfl ?_
      refine aw_aload_n d_TX_timesInAll_13 rfl 2 rfl ?_
      refine aw_iload_n d_TX_timesInAll_14 rfl 3 rfl ?_
      refine aw_iload_n d_TX_timesInAll_15 rfl 0 rfl ?_
      refine aw_callV (K' := k_TX_timesIn) (As := [.int (nI (w)), .int (nI (p))]) (rest := [.int (nI (ps (fun e => cn (fw D e w) (dl D e)) p))]) (b := 1) d_TX_timesInAll_16 rfl rfl rfl cs_TX_34 rfl (Nat.le_of_ble_eq_true rfl) (Nat.le_of_ble_eq_true rfl) (by decide) (by decide) (d' := 0) (w' := 0) (by decide) (by decide) ?_
      show AW _ _ _ _ _ _ _ [(0, .ref (1)), (1, .int (nI (w))), (2, .int (nI (p)))] _ _ _ _ _
      refine A_TX_timesIn wd dc (by omega) hw ?_
      refine ab_go1 ?_
      refine aw_iaddN d_TX_timesInAll_19 ?_
      refine aw_istore_n (lv' := [(2, .int (nI ((ps (fun e => cn (fw D e w) (dl D e)) p) + (cn (fw D p w) (dl D p))))), (3, .int (nI (p))), (0, .ref (1)), (1, .int (nI (w)))]) d_TX_timesInAll_20 rfl (by decide) rfl ?_
      refine aw_iinc (v := (nI (p + 1))) (lv' := [(3, .int (nI (p + 1))), (2, .int (nI ((ps (fun e => cn (fw D e w) (dl D e)) p) + (cn (fw D p w) (dl D p))))), (0, .ref (1)), (1, .int (nI (w)))]) d_TX_timesInAll_21 (j := 1) rfl (nI_add (p) 1) (by decide) rfl ?_
      refine aw_goto (tgt := 4) d_TX_timesInAll_24 (by decide) ?_
      exact ih _ (by omega) (p + 1) rfl (by omega)
set_option maxRecDepth 4000 in
theorem A_TX_timesInAll {l : Launch} {M : ab_M} {Q : ab_O → ab_M → Prop} {D : Dg} (wd : wD D) (dc : iDC D M) {w : Nat} (hw : w < 16) (hQ : Q (.inl (some (.int (nI (ps (fun e => cn (fw D e w) (dl D e)) (dn D)))))) M) : AW sys l ab_Zt k_TX_timesInAll 1 24 0 [(0, .ref (1)), (1, .int (nI (w)))] [] M 0 0 Q := by
  refine aw_iconst (v := nI 0) d_TX_timesInAll_0 (by decide) ?_
  refine aw_istore_n (lv' := [(2, .int (nI (0))), (0, .ref (1)), (1, .int (nI (w)))]) d_TX_timesInAll_1 rfl (by decide) rfl ?_
  refine aw_iconst (v := nI 0) d_TX_timesInAll_2 (by decide) ?_
  refine aw_istore_n (lv' := [(3, .int (nI (0))), (2, .int (nI (0))), (0, .ref (1)), (1, .int (nI (w)))]) d_TX_timesInAll_3 rfl (by decide) rfl ?_
  exact A_TX_all_loop wd dc hw hQ _ 0 rfl (by omega)
set_option maxRecDepth 4000 in
theorem B_places_loop {l : Launch} {M : ab_M} {Q : ab_O → ab_M → Prop} {D : Dg} (wd : wD D) (dr : iDR D M) {d w : Nat} (hd : d < 12) (hw : w < 16) (hQ : Q (.inl (some (.int (nI (bsn (fw D d w) (dl D d)))))) M) : ∀ (k : Nat) (p : Nat), 24 - p = k → (hp : p ≤ dl D d) → AW sys l ab_Zt k_MO_places 0 0 5 [(4, .int (nI (p))), (3, .int (nI (bsn (fw D d w) p))), (0, .ref (57)), (1, .int (nI (d))), (2, .int (nI (w)))] [] M 0 0 Q := by
  intro k
  induction k using Nat.strongRecOn with
  | ind k ih =>
    intro p hk hp
    have hl := wd.2.1 d
    have hx := wd.2.2.2.1 d p
    refine aw_iload d_MO_places_5 0 rfl ?_
    refine aw_aload_n d_MO_places_7 rfl 2 rfl ?_
    refine aw_get (ic := 57) (ci := 6) (k := 2) d_MO_places_8 rfl rfl (by decide) rfl mw_777 rfl ?_
    refine aw_iload_n d_MO_places_11 rfl 3 rfl ?_
    refine aw_ialdN d_MO_places_12 rfl (by decide) (by omega) ?_
    refine aw_eqi (nI (dl D d)) (dr.2.1 _ (by omega)) ?_
    refine aw_icmp_geN (tgt := 45) d_MO_places_13 (by decide) (by omega) (by omega) (fun c1 => ?_) (fun c1 => ?_)
    · skip
      refine aw_iload_n d_MO_places_45 rfl 1 rfl ?_
      refine aw_iret d_MO_places_46 rfl (by decide) (by decide) ?_
      exact q_n (by rw [show p = dl D d by omega]) hQ
    · skip
      refine aw_aload_n d_MO_places_16 rfl 2 rfl ?_
      refine aw_get (ic := 57) (ci := 6) (k := 1) d_MO_places_17 rfl rfl (by decide) rfl mw_776 rfl ?_
      refine aw_bipush (v := nI 24) d_MO_places_20 (by decide) ?_
      refine aw_iload_n d_MO_places_22 rfl 3 rfl ?_
      refine aw_imulN d_MO_places_23 ?_
      refine aw_iload d_MO_places_24 0 rfl ?_
      refine aw_iaddN d_MO_places_26 ?_
      refine aw_ialdN d_MO_places_27 rfl (by decide) (by omega) ?_
      refine aw_eqi (nI (dw D d p)) (dr.2.2.1 _ _ (by omega) (by omega)) ?_
      refine aw_iload_n d_MO_places_28 rfl 4 rfl ?_
      refine aw_icmp_neN (tgt := 39) d_MO_places_29 (by decide) (by omega) (by omega) (fun c2 => ?_) (fun c2 => ?_)
      · skip
        refine aw_iinc (v := (nI (p + 1))) (lv' := [(4, .int (nI (p + 1))), (3, .int (nI (bsn (fw D d w) p))), (0, .ref (57)), (1, .int (nI (d))), (2, .int (nI (w)))]) d_MO_places_39 (j := 0) rfl (nI_add (p) 1) (by decide) rfl ?_
        refine aw_goto (tgt := 5) d_MO_places_42 (by decide) ?_
        rw [show nI (bsn (fw D d w) p) = nI (bsn (fw D d w) (p + 1)) by simp only [bsn]; rw [fw_f (by omega)]; simp]
        exact ih _ (by omega) (p + 1) rfl (by omega)
      · skip
        refine aw_iload_n d_MO_places_32 rfl 1 rfl ?_
        refine aw_iconst (v := nI 1) d_MO_places_33 (by decide) ?_
        refine aw_iload d_MO_places_34 0 rfl ?_
        refine aw_ishl1 d_MO_places_36 (by omega) ?_
        refine aw_iorN d_MO_places_37 ?_
        refine aw_istore_n (lv' := [(3, .int (nI ((bsn (fw D d w) p) ||| (2 ^ p)))), (4, .int (nI (p))), (0, .ref (57)), (1, .int (nI (d))), (2, .int (nI (w)))]) d_MO_places_38 rfl (by decide) rfl ?_
        refine aw_iinc (v := (nI (p + 1))) (lv' := [(4, .int (nI (p + 1))), (3, .int (nI ((bsn (fw D d w) p) ||| (2 ^ p)))), (0, .ref (57)), (1, .int (nI (d))), (2, .int (nI (w)))]) d_MO_places_39 (j := 1) rfl (nI_add (p) 1) (by decide) rfl ?_
        refine aw_goto (tgt := 5) d_MO_places_42 (by decide) ?_
        rw [show nI ((bsn (fw D d w) p) ||| (2 ^ p)) = nI (bsn (fw D d w) (p + 1)) by simp only [bsn]; rw [fw_t (by omega)]; rfl]
        exact ih _ (by omega) (p + 1) rfl (by omega)
set_option maxRecDepth 4000 in
theorem B_places {l : Launch} {M : ab_M} {Q : ab_O → ab_M → Prop} {D : Dg} (wd : wD D) (dr : iDR D M) {d w : Nat} (hd : d < 12) (hw : w < 16) (hQ : Q (.inl (some (.int (nI (bsn (fw D d w) (dl D d)))))) M) : AW sys l ab_Zt k_MO_places 0 0 0 [(0, .ref (57)), (1, .int (nI (d))), (2, .int (nI (w)))] [] M 0 0 Q := by
  refine aw_iconst (v := nI 0) d_MO_places_0 (by decide) ?_
  refine aw_istore_n (lv' := [(3, .int (nI (0))), (0, .ref (57)), (1, .int (nI (d))), (2, .int (nI (w)))]) d_MO_places_1 rfl (by decide) rfl ?_
  refine aw_iconst (v := nI 0) d_MO_places_2 (by decide) ?_
  refine aw_istore (lv' := [(4, .int (nI (0))), (3, .int (nI (0))), (0, .ref (57)), (1, .int (nI (d))), (2, .int (nI (w)))]) d_MO_places_3 (by decide) rfl ?_
  exact B_places_loop wd dr hd hw hQ _ 0 rfl (by omega)
set_option maxRecDepth 4000 in
theorem B_bits_loop {l : Launch} {M : ab_M} {Q : ab_O → ab_M → Prop} {x c : Nat} (hQ : Q (.inl (some (.int (nI c)))) M) : ∀ (k : Nat) (s : Nat) (n : Nat), s = k → (hs : s < 2 ^ 31) → (hn : n + pc 31 s = c) → AW sys l ab_Zt k_MO_bits 0 0 4 [(2, .int (nI (s))), (1, .int (nI (n))), (0, .int (nI (x)))] [] M 0 0 Q := by
  intro k
  induction k using Nat.strongRecOn with
  | ind k ih =>
    intro s n hk hs hn
    refine aw_iload_n d_MO_bits_4 rfl 0 rfl ?_
    refine aw_if_eqN (tgt := 20) d_MO_bits_5 (by decide) (by omega) (fun c1 => ?_) (fun c1 => ?_)
    · skip
      refine aw_iload_n d_MO_bits_20 rfl 1 rfl ?_
      refine aw_iret d_MO_bits_21 rfl (by decide) (by decide) ?_
      exact q_n (by rw [show s = 0 by omega, pc_zero] at hn; omega) hQ
    · skip
      refine aw_iinc (v := (nI (n + 1))) (lv' := [(1, .int (nI (n + 1))), (2, .int (nI (s))), (0, .int (nI (x)))]) d_MO_bits_8 (j := 1) rfl (nI_add (n) 1) (by decide) rfl ?_
      refine aw_iload_n d_MO_bits_11 rfl 1 rfl ?_
      refine aw_iload_n d_MO_bits_12 rfl 1 rfl ?_
      refine aw_iconst (v := nI 1) d_MO_bits_13 (by decide) ?_
      refine aw_isubN d_MO_bits_14 (by omega) ?_
      refine aw_iandN d_MO_bits_15 ?_
      refine aw_istore_n (lv' := [(2, .int (nI (s &&& (s - 1)))), (1, .int (nI (n + 1))), (0, .int (nI (x)))]) d_MO_bits_16 rfl (by decide) rfl ?_
      refine aw_goto (tgt := 4) d_MO_bits_17 (by decide) ?_
      exact ih _ (by have := bits_lt s (by omega); omega) (s &&& (s - 1)) (n + 1) rfl (Nat.lt_of_lt_of_le (bits_lt s (by omega)) (by omega)) (by have := pc_drop 31 s (by omega) hs; omega)
set_option maxRecDepth 4000 in
theorem B_bits {l : Launch} {M : ab_M} {Q : ab_O → ab_M → Prop} {f : Nat → Bool} {n : Nat} (hn : n ≤ 24) (hQ : Q (.inl (some (.int (nI (cn f n))))) M) : AW sys l ab_Zt k_MO_bits 0 0 0 [(0, .int (nI (bsn f n)))] [] M 0 0 Q := by
  refine aw_iconst (v := nI 0) d_MO_bits_0 (by decide) ?_
  refine aw_istore_n (lv' := [(1, .int (nI (0))), (0, .int (nI (bsn f n)))]) d_MO_bits_1 rfl (by decide) rfl ?_
  refine aw_iload_n d_MO_bits_2 rfl 1 rfl ?_
  refine aw_istore_n (lv' := [(2, .int (nI (bsn f n))), (1, .int (nI (0))), (0, .int (nI (bsn f n)))]) d_MO_bits_3 rfl (by decide) rfl ?_
  exact B_bits_loop hQ _ _ 0 rfl (by have := bsn_lt f n; have : 2 ^ n ≤ 2 ^ 24 := Nat.pow_le_pow_right (by omega) hn; omega) (by rw [pc_bsn f 31 n (by omega)]; omega)
set_option maxRecDepth 4000 in
theorem B_all_loop {l : Launch} {M : ab_M} {Q : ab_O → ab_M → Prop} {D : Dg} (wd : wD D) (dr : iDR D M) (hQ : Q (.inl (some (.int (nI (dall D))))) M) : ∀ (k : Nat) (p : Nat), 12 - p = k → (hp : p ≤ dn D) → AW sys l ab_Zt k_MO_all 0 0 4 [(2, .int (nI (p))), (1, .int (nI (ps (dl D) p))), (0, .ref (57))] [] M 0 0 Q := by
  intro k
  induction k using Nat.strongRecOn with
  | ind k ih =>
    intro p hk hp
    have h12 := wd.1
    refine aw_iload_n d_MO_all_4 rfl 0 rfl ?_
    refine aw_aload_n d_MO_all_5 rfl 2 rfl ?_
    refine aw_get (ic := 57) (ci := 6) (k := 4) d_MO_all_6 rfl rfl (by decide) rfl mw_779 rfl ?_
    refine aw_eqi (nI (dn D)) dr.1 ?_
    refine aw_icmp_geN (tgt := 27) d_MO_all_9 (by decide) (by omega) (by omega) (fun c1 => ?_) (fun c1 => ?_)
    · skip
      refine aw_iload_n d_MO_all_27 rfl 1 rfl ?_
      refine aw_iret d_MO_all_28 rfl (by decide) (by decide) ?_
      exact q_n (by rw [show p = dn D by omega]; rfl) hQ
    · skip
      refine aw_iload_n d_MO_all_12 rfl 1 rfl ?_
      refine aw_aload_n d_MO_all_13 rfl 2 rfl ?_
      refine aw_get (ic := 57) (ci := 6) (k := 2) d_MO_all_14 rfl rfl (by decide) rfl mw_777 rfl ?_
      refine aw_iload_n d_MO_all_17 rfl 0 rfl ?_
      refine aw_ialdN d_MO_all_18 rfl (by decide) (by omega) ?_
      refine aw_eqi (nI (dl D p)) (dr.2.1 _ (by omega)) ?_
      refine aw_iaddN d_MO_all_19 ?_
      refine aw_istore_n (lv' := [(1, .int (nI ((ps (dl D) p) + dl D p))), (2, .int (nI (p))), (0, .ref (57))]) d_MO_all_20 rfl (by decide) rfl ?_
      refine aw_iinc (v := (nI (p + 1))) (lv' := [(2, .int (nI (p + 1))), (1, .int (nI ((ps (dl D) p) + dl D p))), (0, .ref (57))]) d_MO_all_21 (j := 1) rfl (nI_add (p) 1) (by decide) rfl ?_
      refine aw_goto (tgt := 4) d_MO_all_24 (by decide) ?_
      exact ih _ (by omega) (p + 1) rfl (by omega)
set_option maxRecDepth 4000 in
theorem B_all {l : Launch} {M : ab_M} {Q : ab_O → ab_M → Prop} {D : Dg} (wd : wD D) (dr : iDR D M) (hQ : Q (.inl (some (.int (nI (dall D))))) M) : AW sys l ab_Zt k_MO_all 0 0 0 [(0, .ref (57))] [] M 0 0 Q := by
  refine aw_iconst (v := nI 0) d_MO_all_0 (by decide) ?_
  refine aw_istore_n (lv' := [(1, .int (nI (0))), (0, .ref (57))]) d_MO_all_1 rfl (by decide) rfl ?_
  refine aw_iconst (v := nI 0) d_MO_all_2 (by decide) ?_
  refine aw_istore_n (lv' := [(2, .int (nI (0))), (1, .int (nI (0))), (0, .ref (57))]) d_MO_all_3 rfl (by decide) rfl ?_
  exact B_all_loop wd dr hQ _ 0 rfl (by omega)
