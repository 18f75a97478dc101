/-! the constructors of the parts, and of the reference (rows laid by gen/m22.py) -/
theorem obj_i : Cond.instanceMethod Lib.objectInit ∈ sysW := by decide +kernel
theorem obj_c : Cond.code Lib.objectInit ⟨#[0xb1]⟩ 1 none ∈ sysW := by decide +kernel
abbrev S_TX : Type := Nat × (Nat → Nat) × Nat × Nat
def G_TX (D : ab_D) (h0 : Nat) (u : S_TX) : va_W := [(h0, .inr (1, [.ref u.1, .ref u.2.2.1, .ref u.2.2.2, .int 0, .int 0])), (u.1, eA D 12 u.2.1), (u.2.1 0, eI D 24), (u.2.1 1, eI D 24), (u.2.1 2, eI D 24), (u.2.1 3, eI D 24), (u.2.1 4, eI D 24), (u.2.1 5, eI D 24), (u.2.1 6, eI D 24), (u.2.1 7, eI D 24), (u.2.1 8, eI D 24), (u.2.1 9, eI D 24), (u.2.1 10, eI D 24), (u.2.1 11, eI D 24), (u.2.2.1, eI D 12), (u.2.2.2, eI D 12)]
set_option maxRecDepth 20000 in
theorem c_TX_init (l : Launch) (D : ab_D) (h0 : Nat) (sz : Nat) : bcM l k_TX_init 1 12 D [] h0 1 [.null, .null, .null, .int 0, .int 0] (G_TX D h0) 15 324 sz := by
  refine bc_met (by decide +kernel) (Nat.le_of_ble_eq_true rfl) rfl ?_ sz
  intro p e s m args below meth c A ls C hN hnm hml hr hlk hl hw
  have hl : lv_has ls 1 [(0, .ref h0)] := hl
  refine lv_aload_n C.1 C.2.1 d_TX_init_0 rfl (lv_at hl 0 rfl) ?_
  refine bc_obj C hml hl.1 (idx := 3) (by decide +kernel) obj_i obj_c (Nat.le_of_ble_eq_true rfl) (Nat.le_of_ble_eq_true rfl) d_TX_init_1 ?_
  refine lv_aload_n C.1 C.2.1 d_TX_init_4 rfl (lv_at hl 0 rfl) ?_
  refine lv_bipush (v := 12) C.1 C.2.1 d_TX_init_5 (by decide) ?_
  refine lv_bipush (v := 24) C.1 C.2.1 d_TX_init_7 (by decide) ?_
  refine bc_mna C hw hN.1 (index := 9) (by decide +kernel) (N := 12) (M' := 24) (by decide) (by decide) (by decide) (by decide) (by decide) (by decide) (Nat.le_of_ble_eq_true rfl) (Nat.le_of_ble_eq_true rfl) d_TX_init_9 (fun a9 r H9 hw => ?_)
  have hw : bcw D A s.heap [(h0, .inr (1, [.null, .null, .null, .int 0, .int 0])), (a9, eA D 12 r), (r 0, eI D 24), (r 1, eI D 24), (r 2, eI D 24), (r 3, eI D 24), (r 4, eI D 24), (r 5, eI D 24), (r 6, eI D 24), (r 7, eI D 24), (r 8, eI D 24), (r 9, eI D 24), (r 10, eI D 24), (r 11, eI D 24)] H9 [] := hw
  refine bc_put C hnm hw 0 (ci := 1) (k := 0) (N := 5) (T := F_TX) (index := 11) (ty := (.array (.array .int))) (fs := [.null, .null, .null, .int 0, .int 0]) rfl rfl (by decide) mw_69 rfl (by decide +kernel) rfl rfl (Nat.le_of_ble_eq_true rfl) d_TX_init_13 (fun H13 locs13 hw => ?_)
  have hw : bcw D A s.heap [(h0, .inr (1, [.ref a9, .null, .null, .int 0, .int 0])), (a9, eA D 12 r), (r 0, eI D 24), (r 1, eI D 24), (r 2, eI D 24), (r 3, eI D 24), (r 4, eI D 24), (r 5, eI D 24), (r 6, eI D 24), (r 7, eI D 24), (r 8, eI D 24), (r 9, eI D 24), (r 10, eI D 24), (r 11, eI D 24)] H13 locs13 := hw
  refine lv_aload_n C.1 C.2.1 d_TX_init_16 rfl (lv_at hl 0 rfl) ?_
  refine lv_bipush (v := 12) C.1 C.2.1 d_TX_init_17 (by decide) ?_
  refine bc_newI C hw (N := 12) (by decide) (by decide) (by decide) (Nat.le_of_ble_eq_true rfl) (Nat.le_of_ble_eq_true rfl) d_TX_init_19 (fun a19 H19 hw => ?_)
  have hw : bcw D A s.heap [(h0, .inr (1, [.ref a9, .null, .null, .int 0, .int 0])), (a9, eA D 12 r), (r 0, eI D 24), (r 1, eI D 24), (r 2, eI D 24), (r 3, eI D 24), (r 4, eI D 24), (r 5, eI D 24), (r 6, eI D 24), (r 7, eI D 24), (r 8, eI D 24), (r 9, eI D 24), (r 10, eI D 24), (r 11, eI D 24), (a19, eI D 12)] H19 locs13 := hw
  refine bc_put C hnm hw 0 (ci := 1) (k := 1) (N := 5) (T := F_TX) (index := 16) (ty := (.array .int)) (fs := [.ref a9, .null, .null, .int 0, .int 0]) rfl rfl (by decide) mw_70 rfl (by decide +kernel) rfl rfl (Nat.le_of_ble_eq_true rfl) d_TX_init_21 (fun H21 locs21 hw => ?_)
  have hw : bcw D A s.heap [(h0, .inr (1, [.ref a9, .ref a19, .null, .int 0, .int 0])), (a9, eA D 12 r), (r 0, eI D 24), (r 1, eI D 24), (r 2, eI D 24), (r 3, eI D 24), (r 4, eI D 24), (r 5, eI D 24), (r 6, eI D 24), (r 7, eI D 24), (r 8, eI D 24), (r 9, eI D 24), (r 10, eI D 24), (r 11, eI D 24), (a19, eI D 12)] H21 locs21 := hw
  refine lv_aload_n C.1 C.2.1 d_TX_init_24 rfl (lv_at hl 0 rfl) ?_
  refine lv_bipush (v := 12) C.1 C.2.1 d_TX_init_25 (by decide) ?_
  refine bc_newI C hw (N := 12) (by decide) (by decide) (by decide) (Nat.le_of_ble_eq_true rfl) (Nat.le_of_ble_eq_true rfl) d_TX_init_27 (fun a27 H27 hw => ?_)
  have hw : bcw D A s.heap [(h0, .inr (1, [.ref a9, .ref a19, .null, .int 0, .int 0])), (a9, eA D 12 r), (r 0, eI D 24), (r 1, eI D 24), (r 2, eI D 24), (r 3, eI D 24), (r 4, eI D 24), (r 5, eI D 24), (r 6, eI D 24), (r 7, eI D 24), (r 8, eI D 24), (r 9, eI D 24), (r 10, eI D 24), (r 11, eI D 24), (a19, eI D 12), (a27, eI D 12)] H27 locs21 := hw
  refine bc_put C hnm hw 0 (ci := 1) (k := 2) (N := 5) (T := F_TX) (index := 20) (ty := (.array .int)) (fs := [.ref a9, .ref a19, .null, .int 0, .int 0]) rfl rfl (by decide) mw_71 rfl (by decide +kernel) rfl rfl (Nat.le_of_ble_eq_true rfl) d_TX_init_29 (fun H29 locs29 hw => ?_)
  have hw : bcw D A s.heap [(h0, .inr (1, [.ref a9, .ref a19, .ref a27, .int 0, .int 0])), (a9, eA D 12 r), (r 0, eI D 24), (r 1, eI D 24), (r 2, eI D 24), (r 3, eI D 24), (r 4, eI D 24), (r 5, eI D 24), (r 6, eI D 24), (r 7, eI D 24), (r 8, eI D 24), (r 9, eI D 24), (r 10, eI D 24), (r 11, eI D 24), (a19, eI D 12), (a27, eI D 12)] H29 locs29 := hw
  refine lv_aload_n C.1 C.2.1 d_TX_init_32 rfl (lv_at hl 0 rfl) ?_
  refine lv_iconst (v := 0) C.1 C.2.1 d_TX_init_33 (by decide) ?_
  refine bc_put C hnm hw 0 (ci := 1) (k := 3) (N := 5) (T := F_TX) (index := 23) (ty := .int) (fs := [.ref a9, .ref a19, .ref a27, .int 0, .int 0]) rfl rfl (by decide) mw_72 rfl (by decide +kernel) rfl rfl (Nat.le_of_ble_eq_true rfl) d_TX_init_34 (fun H34 locs34 hw => ?_)
  have hw : bcw D A s.heap [(h0, .inr (1, [.ref a9, .ref a19, .ref a27, .int 0, .int 0])), (a9, eA D 12 r), (r 0, eI D 24), (r 1, eI D 24), (r 2, eI D 24), (r 3, eI D 24), (r 4, eI D 24), (r 5, eI D 24), (r 6, eI D 24), (r 7, eI D 24), (r 8, eI D 24), (r 9, eI D 24), (r 10, eI D 24), (r 11, eI D 24), (a19, eI D 12), (a27, eI D 12)] H34 locs34 := hw
  refine lv_aload_n C.1 C.2.1 d_TX_init_37 rfl (lv_at hl 0 rfl) ?_
  refine lv_iconst (v := 0) C.1 C.2.1 d_TX_init_38 (by decide) ?_
  refine bc_put C hnm hw 0 (ci := 1) (k := 4) (N := 5) (T := F_TX) (index := 27) (ty := .int) (fs := [.ref a9, .ref a19, .ref a27, .int 0, .int 0]) rfl rfl (by decide) mw_73 rfl (by decide +kernel) rfl rfl (Nat.le_of_ble_eq_true rfl) d_TX_init_39 (fun H39 locs39 hw => ?_)
  have hw : bcw D A s.heap [(h0, .inr (1, [.ref a9, .ref a19, .ref a27, .int 0, .int 0])), (a9, eA D 12 r), (r 0, eI D 24), (r 1, eI D 24), (r 2, eI D 24), (r 3, eI D 24), (r 4, eI D 24), (r 5, eI D 24), (r 6, eI D 24), (r 7, eI D 24), (r 8, eI D 24), (r 9, eI D 24), (r 10, eI D 24), (r 11, eI D 24), (a19, eI D 12), (a27, eI D 12)] H39 locs39 := hw
  exact bc_ret C hr hlk (a9, r, a19, a27) hw (Nat.le_of_ble_eq_true rfl) (Nat.le_of_ble_eq_true rfl) d_TX_init_42
abbrev S_QU : Type := Nat × Nat × Nat × Nat
def G_QU (D : ab_D) (h0 : Nat) (u : S_QU) : va_W := [(h0, .inr (2, [.ref u.1, .ref u.2.1, .ref u.2.2.1, .ref u.2.2.2, .int 0, .int 1, .int 0])), (u.1, eI D 24), (u.2.1, eI D 24), (u.2.2.1, eD D 24), (u.2.2.2, eI D 24)]
set_option maxRecDepth 20000 in
theorem c_QU_init (l : Launch) (D : ab_D) (h0 : Nat) (sz : Nat) : bcM l k_QU_init 1 12 D [] h0 2 [.null, .null, .null, .null, .int 0, .int 0, .int 0] (G_QU D h0) 4 96 sz := by
  refine bc_met (by decide +kernel) (Nat.le_of_ble_eq_true rfl) rfl ?_ sz
  intro p e s m args below meth c A ls C hN hnm hml hr hlk hl hw
  have hl : lv_has ls 1 [(0, .ref h0)] := hl
  refine lv_aload_n C.1 C.2.1 d_QU_init_0 rfl (lv_at hl 0 rfl) ?_
  refine bc_obj C hml hl.1 (idx := 3) (by decide +kernel) obj_i obj_c (Nat.le_of_ble_eq_true rfl) (Nat.le_of_ble_eq_true rfl) d_QU_init_1 ?_
  refine lv_aload_n C.1 C.2.1 d_QU_init_4 rfl (lv_at hl 0 rfl) ?_
  refine lv_bipush (v := 24) C.1 C.2.1 d_QU_init_5 (by decide) ?_
  refine bc_newI C hw (N := 24) (by decide) (by decide) (by decide) (Nat.le_of_ble_eq_true rfl) (Nat.le_of_ble_eq_true rfl) d_QU_init_7 (fun a7 H7 hw => ?_)
  have hw : bcw D A s.heap [(h0, .inr (2, [.null, .null, .null, .null, .int 0, .int 0, .int 0])), (a7, eI D 24)] H7 [] := hw
  refine bc_put C hnm hw 0 (ci := 2) (k := 0) (N := 7) (T := F_QU) (index := 9) (ty := (.array .int)) (fs := [.null, .null, .null, .null, .int 0, .int 0, .int 0]) rfl rfl (by decide) mw_92 rfl (by decide +kernel) rfl rfl (Nat.le_of_ble_eq_true rfl) d_QU_init_9 (fun H9 locs9 hw => ?_)
  have hw : bcw D A s.heap [(h0, .inr (2, [.ref a7, .null, .null, .null, .int 0, .int 0, .int 0])), (a7, eI D 24)] H9 locs9 := hw
  refine lv_aload_n C.1 C.2.1 d_QU_init_12 rfl (lv_at hl 0 rfl) ?_
  refine lv_bipush (v := 24) C.1 C.2.1 d_QU_init_13 (by decide) ?_
  refine bc_newI C hw (N := 24) (by decide) (by decide) (by decide) (Nat.le_of_ble_eq_true rfl) (Nat.le_of_ble_eq_true rfl) d_QU_init_15 (fun a15 H15 hw => ?_)
  have hw : bcw D A s.heap [(h0, .inr (2, [.ref a7, .null, .null, .null, .int 0, .int 0, .int 0])), (a7, eI D 24), (a15, eI D 24)] H15 locs9 := hw
  refine bc_put C hnm hw 0 (ci := 2) (k := 1) (N := 7) (T := F_QU) (index := 15) (ty := (.array .int)) (fs := [.ref a7, .null, .null, .null, .int 0, .int 0, .int 0]) rfl rfl (by decide) mw_93 rfl (by decide +kernel) rfl rfl (Nat.le_of_ble_eq_true rfl) d_QU_init_17 (fun H17 locs17 hw => ?_)
  have hw : bcw D A s.heap [(h0, .inr (2, [.ref a7, .ref a15, .null, .null, .int 0, .int 0, .int 0])), (a7, eI D 24), (a15, eI D 24)] H17 locs17 := hw
  refine lv_aload_n C.1 C.2.1 d_QU_init_20 rfl (lv_at hl 0 rfl) ?_
  refine lv_bipush (v := 24) C.1 C.2.1 d_QU_init_21 (by decide) ?_
  refine bc_newD C hw (N := 24) (by decide) (by decide) (by decide) (Nat.le_of_ble_eq_true rfl) (Nat.le_of_ble_eq_true rfl) d_QU_init_23 (fun a23 H23 hw => ?_)
  have hw : bcw D A s.heap [(h0, .inr (2, [.ref a7, .ref a15, .null, .null, .int 0, .int 0, .int 0])), (a7, eI D 24), (a15, eI D 24), (a23, eD D 24)] H23 locs17 := hw
  refine bc_put C hnm hw 0 (ci := 2) (k := 2) (N := 7) (T := F_QU) (index := 18) (ty := (.array .double)) (fs := [.ref a7, .ref a15, .null, .null, .int 0, .int 0, .int 0]) rfl rfl (by decide) mw_94 rfl (by decide +kernel) rfl rfl (Nat.le_of_ble_eq_true rfl) d_QU_init_25 (fun H25 locs25 hw => ?_)
  have hw : bcw D A s.heap [(h0, .inr (2, [.ref a7, .ref a15, .ref a23, .null, .int 0, .int 0, .int 0])), (a7, eI D 24), (a15, eI D 24), (a23, eD D 24)] H25 locs25 := hw
  refine lv_aload_n C.1 C.2.1 d_QU_init_28 rfl (lv_at hl 0 rfl) ?_
  refine lv_bipush (v := 24) C.1 C.2.1 d_QU_init_29 (by decide) ?_
  refine bc_newI C hw (N := 24) (by decide) (by decide) (by decide) (Nat.le_of_ble_eq_true rfl) (Nat.le_of_ble_eq_true rfl) d_QU_init_31 (fun a31 H31 hw => ?_)
  have hw : bcw D A s.heap [(h0, .inr (2, [.ref a7, .ref a15, .ref a23, .null, .int 0, .int 0, .int 0])), (a7, eI D 24), (a15, eI D 24), (a23, eD D 24), (a31, eI D 24)] H31 locs25 := hw
  refine bc_put C hnm hw 0 (ci := 2) (k := 3) (N := 7) (T := F_QU) (index := 22) (ty := (.array .int)) (fs := [.ref a7, .ref a15, .ref a23, .null, .int 0, .int 0, .int 0]) rfl rfl (by decide) mw_95 rfl (by decide +kernel) rfl rfl (Nat.le_of_ble_eq_true rfl) d_QU_init_33 (fun H33 locs33 hw => ?_)
  have hw : bcw D A s.heap [(h0, .inr (2, [.ref a7, .ref a15, .ref a23, .ref a31, .int 0, .int 0, .int 0])), (a7, eI D 24), (a15, eI D 24), (a23, eD D 24), (a31, eI D 24)] H33 locs33 := hw
  refine lv_aload_n C.1 C.2.1 d_QU_init_36 rfl (lv_at hl 0 rfl) ?_
  refine lv_iconst (v := 0) C.1 C.2.1 d_QU_init_37 (by decide) ?_
  refine bc_put C hnm hw 0 (ci := 2) (k := 4) (N := 7) (T := F_QU) (index := 25) (ty := .int) (fs := [.ref a7, .ref a15, .ref a23, .ref a31, .int 0, .int 0, .int 0]) rfl rfl (by decide) mw_96 rfl (by decide +kernel) rfl rfl (Nat.le_of_ble_eq_true rfl) d_QU_init_38 (fun H38 locs38 hw => ?_)
  have hw : bcw D A s.heap [(h0, .inr (2, [.ref a7, .ref a15, .ref a23, .ref a31, .int 0, .int 0, .int 0])), (a7, eI D 24), (a15, eI D 24), (a23, eD D 24), (a31, eI D 24)] H38 locs38 := hw
  refine lv_aload_n C.1 C.2.1 d_QU_init_41 rfl (lv_at hl 0 rfl) ?_
  refine lv_iconst (v := 1) C.1 C.2.1 d_QU_init_42 (by decide) ?_
  refine bc_put C hnm hw 0 (ci := 2) (k := 5) (N := 7) (T := F_QU) (index := 29) (ty := .int) (fs := [.ref a7, .ref a15, .ref a23, .ref a31, .int 0, .int 0, .int 0]) rfl rfl (by decide) mw_97 rfl (by decide +kernel) rfl rfl (Nat.le_of_ble_eq_true rfl) d_QU_init_43 (fun H43 locs43 hw => ?_)
  have hw : bcw D A s.heap [(h0, .inr (2, [.ref a7, .ref a15, .ref a23, .ref a31, .int 0, .int 1, .int 0])), (a7, eI D 24), (a15, eI D 24), (a23, eD D 24), (a31, eI D 24)] H43 locs43 := hw
  refine lv_aload_n C.1 C.2.1 d_QU_init_46 rfl (lv_at hl 0 rfl) ?_
  refine lv_iconst (v := 0) C.1 C.2.1 d_QU_init_47 (by decide) ?_
  refine bc_put C hnm hw 0 (ci := 2) (k := 6) (N := 7) (T := F_QU) (index := 32) (ty := .int) (fs := [.ref a7, .ref a15, .ref a23, .ref a31, .int 0, .int 1, .int 0]) rfl rfl (by decide) mw_98 rfl (by decide +kernel) rfl rfl (Nat.le_of_ble_eq_true rfl) d_QU_init_48 (fun H48 locs48 hw => ?_)
  have hw : bcw D A s.heap [(h0, .inr (2, [.ref a7, .ref a15, .ref a23, .ref a31, .int 0, .int 1, .int 0])), (a7, eI D 24), (a15, eI D 24), (a23, eD D 24), (a31, eI D 24)] H48 locs48 := hw
  exact bc_ret C hr hlk (a7, a15, a23, a31) hw (Nat.le_of_ble_eq_true rfl) (Nat.le_of_ble_eq_true rfl) d_QU_init_51
abbrev S_NE : Type := Nat × (Nat → Nat) × Nat × Nat
def G_NE (D : ab_D) (h0 x1 x2 : Nat) (u : S_NE) : va_W := [(h0, .inr (3, [.ref x1, .ref x2, .ref u.1, .ref u.2.2.1, .ref u.2.2.2, .int 0, .double 4611686018427387904])), (u.1, eA D 24 u.2.1), (u.2.1 0, eI D 12), (u.2.1 1, eI D 12), (u.2.1 2, eI D 12), (u.2.1 3, eI D 12), (u.2.1 4, eI D 12), (u.2.1 5, eI D 12), (u.2.1 6, eI D 12), (u.2.1 7, eI D 12), (u.2.1 8, eI D 12), (u.2.1 9, eI D 12), (u.2.1 10, eI D 12), (u.2.1 11, eI D 12), (u.2.1 12, eI D 12), (u.2.1 13, eI D 12), (u.2.1 14, eI D 12), (u.2.1 15, eI D 12), (u.2.1 16, eI D 12), (u.2.1 17, eI D 12), (u.2.1 18, eI D 12), (u.2.1 19, eI D 12), (u.2.1 20, eI D 12), (u.2.1 21, eI D 12), (u.2.1 22, eI D 12), (u.2.1 23, eI D 12), (u.2.2.1, eI D 24), (u.2.2.2, eD D 24)]
set_option maxRecDepth 20000 in
theorem c_NE_init (l : Launch) (D : ab_D) (h0 x1 x2 : Nat) (sz : Nat) : bcM l k_NE_init 1 12 D [.ref x1, .ref x2] h0 3 [.null, .null, .null, .null, .null, .int 0, .double 0] (G_NE D h0 x1 x2) 27 360 sz := by
  refine bc_met (by decide +kernel) (Nat.le_of_ble_eq_true rfl) rfl ?_ sz
  intro p e s m args below meth c A ls C hN hnm hml hr hlk hl hw
  have hl : lv_has ls 3 [(0, .ref h0), (1, .ref x1), (2, .ref x2)] := hl
  refine lv_aload_n C.1 C.2.1 d_NE_init_0 rfl (lv_at hl 0 rfl) ?_
  refine bc_obj C hml hl.1 (idx := 3) (by decide +kernel) obj_i obj_c (Nat.le_of_ble_eq_true rfl) (Nat.le_of_ble_eq_true rfl) d_NE_init_1 ?_
  refine lv_aload_n C.1 C.2.1 d_NE_init_4 rfl (lv_at hl 0 rfl) ?_
  refine lv_bipush (v := 24) C.1 C.2.1 d_NE_init_5 (by decide) ?_
  refine lv_bipush (v := 12) C.1 C.2.1 d_NE_init_7 (by decide) ?_
  refine bc_mna C hw hN.1 (index := 9) (by decide +kernel) (N := 24) (M' := 12) (by decide) (by decide) (by decide) (by decide) (by decide) (by decide) (Nat.le_of_ble_eq_true rfl) (Nat.le_of_ble_eq_true rfl) d_NE_init_9 (fun a9 r H9 hw => ?_)
  have hw : bcw D A s.heap [(h0, .inr (3, [.null, .null, .null, .null, .null, .int 0, .double 0])), (a9, eA D 24 r), (r 0, eI D 12), (r 1, eI D 12), (r 2, eI D 12), (r 3, eI D 12), (r 4, eI D 12), (r 5, eI D 12), (r 6, eI D 12), (r 7, eI D 12), (r 8, eI D 12), (r 9, eI D 12), (r 10, eI D 12), (r 11, eI D 12), (r 12, eI D 12), (r 13, eI D 12), (r 14, eI D 12), (r 15, eI D 12), (r 16, eI D 12), (r 17, eI D 12), (r 18, eI D 12), (r 19, eI D 12), (r 20, eI D 12), (r 21, eI D 12), (r 22, eI D 12), (r 23, eI D 12)] H9 [] := hw
  refine bc_put C hnm hw 0 (ci := 3) (k := 2) (N := 7) (T := F_NE) (index := 11) (ty := (.array (.array .int))) (fs := [.null, .null, .null, .null, .null, .int 0, .double 0]) rfl rfl (by decide) mw_125 rfl (by decide +kernel) rfl rfl (Nat.le_of_ble_eq_true rfl) d_NE_init_13 (fun H13 locs13 hw => ?_)
  have hw : bcw D A s.heap [(h0, .inr (3, [.null, .null, .ref a9, .null, .null, .int 0, .double 0])), (a9, eA D 24 r), (r 0, eI D 12), (r 1, eI D 12), (r 2, eI D 12), (r 3, eI D 12), (r 4, eI D 12), (r 5, eI D 12), (r 6, eI D 12), (r 7, eI D 12), (r 8, eI D 12), (r 9, eI D 12), (r 10, eI D 12), (r 11, eI D 12), (r 12, eI D 12), (r 13, eI D 12), (r 14, eI D 12), (r 15, eI D 12), (r 16, eI D 12), (r 17, eI D 12), (r 18, eI D 12), (r 19, eI D 12), (r 20, eI D 12), (r 21, eI D 12), (r 22, eI D 12), (r 23, eI D 12)] H13 locs13 := hw
  refine lv_aload_n C.1 C.2.1 d_NE_init_16 rfl (lv_at hl 0 rfl) ?_
  refine lv_bipush (v := 24) C.1 C.2.1 d_NE_init_17 (by decide) ?_
  refine bc_newI C hw (N := 24) (by decide) (by decide) (by decide) (Nat.le_of_ble_eq_true rfl) (Nat.le_of_ble_eq_true rfl) d_NE_init_19 (fun a19 H19 hw => ?_)
  have hw : bcw D A s.heap [(h0, .inr (3, [.null, .null, .ref a9, .null, .null, .int 0, .double 0])), (a9, eA D 24 r), (r 0, eI D 12), (r 1, eI D 12), (r 2, eI D 12), (r 3, eI D 12), (r 4, eI D 12), (r 5, eI D 12), (r 6, eI D 12), (r 7, eI D 12), (r 8, eI D 12), (r 9, eI D 12), (r 10, eI D 12), (r 11, eI D 12), (r 12, eI D 12), (r 13, eI D 12), (r 14, eI D 12), (r 15, eI D 12), (r 16, eI D 12), (r 17, eI D 12), (r 18, eI D 12), (r 19, eI D 12), (r 20, eI D 12), (r 21, eI D 12), (r 22, eI D 12), (r 23, eI D 12), (a19, eI D 24)] H19 locs13 := hw
  refine bc_put C hnm hw 0 (ci := 3) (k := 3) (N := 7) (T := F_NE) (index := 16) (ty := (.array .int)) (fs := [.null, .null, .ref a9, .null, .null, .int 0, .double 0]) rfl rfl (by decide) mw_126 rfl (by decide +kernel) rfl rfl (Nat.le_of_ble_eq_true rfl) d_NE_init_21 (fun H21 locs21 hw => ?_)
  have hw : bcw D A s.heap [(h0, .inr (3, [.null, .null, .ref a9, .ref a19, .null, .int 0, .double 0])), (a9, eA D 24 r), (r 0, eI D 12), (r 1, eI D 12), (r 2, eI D 12), (r 3, eI D 12), (r 4, eI D 12), (r 5, eI D 12), (r 6, eI D 12), (r 7, eI D 12), (r 8, eI D 12), (r 9, eI D 12), (r 10, eI D 12), (r 11, eI D 12), (r 12, eI D 12), (r 13, eI D 12), (r 14, eI D 12), (r 15, eI D 12), (r 16, eI D 12), (r 17, eI D 12), (r 18, eI D 12), (r 19, eI D 12), (r 20, eI D 12), (r 21, eI D 12), (r 22, eI D 12), (r 23, eI D 12), (a19, eI D 24)] H21 locs21 := hw
  refine lv_aload_n C.1 C.2.1 d_NE_init_24 rfl (lv_at hl 0 rfl) ?_
  refine lv_bipush (v := 24) C.1 C.2.1 d_NE_init_25 (by decide) ?_
  refine bc_newD C hw (N := 24) (by decide) (by decide) (by decide) (Nat.le_of_ble_eq_true rfl) (Nat.le_of_ble_eq_true rfl) d_NE_init_27 (fun a27 H27 hw => ?_)
  have hw : bcw D A s.heap [(h0, .inr (3, [.null, .null, .ref a9, .ref a19, .null, .int 0, .double 0])), (a9, eA D 24 r), (r 0, eI D 12), (r 1, eI D 12), (r 2, eI D 12), (r 3, eI D 12), (r 4, eI D 12), (r 5, eI D 12), (r 6, eI D 12), (r 7, eI D 12), (r 8, eI D 12), (r 9, eI D 12), (r 10, eI D 12), (r 11, eI D 12), (r 12, eI D 12), (r 13, eI D 12), (r 14, eI D 12), (r 15, eI D 12), (r 16, eI D 12), (r 17, eI D 12), (r 18, eI D 12), (r 19, eI D 12), (r 20, eI D 12), (r 21, eI D 12), (r 22, eI D 12), (r 23, eI D 12), (a19, eI D 24), (a27, eD D 24)] H27 locs21 := hw
  refine bc_put C hnm hw 0 (ci := 3) (k := 4) (N := 7) (T := F_NE) (index := 20) (ty := (.array .double)) (fs := [.null, .null, .ref a9, .ref a19, .null, .int 0, .double 0]) rfl rfl (by decide) mw_127 rfl (by decide +kernel) rfl rfl (Nat.le_of_ble_eq_true rfl) d_NE_init_29 (fun H29 locs29 hw => ?_)
  have hw : bcw D A s.heap [(h0, .inr (3, [.null, .null, .ref a9, .ref a19, .ref a27, .int 0, .double 0])), (a9, eA D 24 r), (r 0, eI D 12), (r 1, eI D 12), (r 2, eI D 12), (r 3, eI D 12), (r 4, eI D 12), (r 5, eI D 12), (r 6, eI D 12), (r 7, eI D 12), (r 8, eI D 12), (r 9, eI D 12), (r 10, eI D 12), (r 11, eI D 12), (r 12, eI D 12), (r 13, eI D 12), (r 14, eI D 12), (r 15, eI D 12), (r 16, eI D 12), (r 17, eI D 12), (r 18, eI D 12), (r 19, eI D 12), (r 20, eI D 12), (r 21, eI D 12), (r 22, eI D 12), (r 23, eI D 12), (a19, eI D 24), (a27, eD D 24)] H29 locs29 := hw
  refine lv_aload_n C.1 C.2.1 d_NE_init_32 rfl (lv_at hl 0 rfl) ?_
  refine lv_iconst (v := 0) C.1 C.2.1 d_NE_init_33 (by decide) ?_
  refine bc_put C hnm hw 0 (ci := 3) (k := 5) (N := 7) (T := F_NE) (index := 24) (ty := .int) (fs := [.null, .null, .ref a9, .ref a19, .ref a27, .int 0, .double 0]) rfl rfl (by decide) mw_128 rfl (by decide +kernel) rfl rfl (Nat.le_of_ble_eq_true rfl) d_NE_init_34 (fun H34 locs34 hw => ?_)
  have hw : bcw D A s.heap [(h0, .inr (3, [.null, .null, .ref a9, .ref a19, .ref a27, .int 0, .double 0])), (a9, eA D 24 r), (r 0, eI D 12), (r 1, eI D 12), (r 2, eI D 12), (r 3, eI D 12), (r 4, eI D 12), (r 5, eI D 12), (r 6, eI D 12), (r 7, eI D 12), (r 8, eI D 12), (r 9, eI D 12), (r 10, eI D 12), (r 11, eI D 12), (r 12, eI D 12), (r 13, eI D 12), (r 14, eI D 12), (r 15, eI D 12), (r 16, eI D 12), (r 17, eI D 12), (r 18, eI D 12), (r 19, eI D 12), (r 20, eI D 12), (r 21, eI D 12), (r 22, eI D 12), (r 23, eI D 12), (a19, eI D 24), (a27, eD D 24)] H34 locs34 := hw
  refine lv_aload_n C.1 C.2.1 d_NE_init_37 rfl (lv_at hl 0 rfl) ?_
  refine lv_ldc2d (own := "BeliefForge$Network") C.1 C.2.1 C.2.2.1 (C.2.2.2.1 (.constantDouble "BeliefForge$Network" 28 4611686018427387904) (by decide +kernel)) d_NE_init_38 ?_
  refine bc_put C hnm hw 0 (ci := 3) (k := 6) (N := 7) (T := F_NE) (index := 30) (ty := .double) (fs := [.null, .null, .ref a9, .ref a19, .ref a27, .int 0, .double 0]) rfl rfl (by decide) mw_129 rfl (by decide +kernel) rfl rfl (Nat.le_of_ble_eq_true rfl) d_NE_init_41 (fun H41 locs41 hw => ?_)
  have hw : bcw D A s.heap [(h0, .inr (3, [.null, .null, .ref a9, .ref a19, .ref a27, .int 0, .double 4611686018427387904])), (a9, eA D 24 r), (r 0, eI D 12), (r 1, eI D 12), (r 2, eI D 12), (r 3, eI D 12), (r 4, eI D 12), (r 5, eI D 12), (r 6, eI D 12), (r 7, eI D 12), (r 8, eI D 12), (r 9, eI D 12), (r 10, eI D 12), (r 11, eI D 12), (r 12, eI D 12), (r 13, eI D 12), (r 14, eI D 12), (r 15, eI D 12), (r 16, eI D 12), (r 17, eI D 12), (r 18, eI D 12), (r 19, eI D 12), (r 20, eI D 12), (r 21, eI D 12), (r 22, eI D 12), (r 23, eI D 12), (a19, eI D 24), (a27, eD D 24)] H41 locs41 := hw
  refine lv_aload_n C.1 C.2.1 d_NE_init_44 rfl (lv_at hl 0 rfl) ?_
  refine lv_aload_n C.1 C.2.1 d_NE_init_45 rfl (lv_at hl 1 rfl) ?_
  refine bc_put C hnm hw 0 (ci := 3) (k := 0) (N := 7) (T := F_NE) (index := 34) (ty := (.object "BeliefForge$Texts")) (fs := [.null, .null, .ref a9, .ref a19, .ref a27, .int 0, .double 4611686018427387904]) rfl rfl (by decide) mw_123 rfl (by decide +kernel) rfl rfl (Nat.le_of_ble_eq_true rfl) d_NE_init_46 (fun H46 locs46 hw => ?_)
  have hw : bcw D A s.heap [(h0, .inr (3, [.ref x1, .null, .ref a9, .ref a19, .ref a27, .int 0, .double 4611686018427387904])), (a9, eA D 24 r), (r 0, eI D 12), (r 1, eI D 12), (r 2, eI D 12), (r 3, eI D 12), (r 4, eI D 12), (r 5, eI D 12), (r 6, eI D 12), (r 7, eI D 12), (r 8, eI D 12), (r 9, eI D 12), (r 10, eI D 12), (r 11, eI D 12), (r 12, eI D 12), (r 13, eI D 12), (r 14, eI D 12), (r 15, eI D 12), (r 16, eI D 12), (r 17, eI D 12), (r 18, eI D 12), (r 19, eI D 12), (r 20, eI D 12), (r 21, eI D 12), (r 22, eI D 12), (r 23, eI D 12), (a19, eI D 24), (a27, eD D 24)] H46 locs46 := hw
  refine lv_aload_n C.1 C.2.1 d_NE_init_49 rfl (lv_at hl 0 rfl) ?_
  refine lv_aload_n C.1 C.2.1 d_NE_init_50 rfl (lv_at hl 2 rfl) ?_
  refine bc_put C hnm hw 0 (ci := 3) (k := 1) (N := 7) (T := F_NE) (index := 38) (ty := (.object "BeliefForge$Query")) (fs := [.ref x1, .null, .ref a9, .ref a19, .ref a27, .int 0, .double 4611686018427387904]) rfl rfl (by decide) mw_124 rfl (by decide +kernel) rfl rfl (Nat.le_of_ble_eq_true rfl) d_NE_init_51 (fun H51 locs51 hw => ?_)
  have hw : bcw D A s.heap [(h0, .inr (3, [.ref x1, .ref x2, .ref a9, .ref a19, .ref a27, .int 0, .double 4611686018427387904])), (a9, eA D 24 r), (r 0, eI D 12), (r 1, eI D 12), (r 2, eI D 12), (r 3, eI D 12), (r 4, eI D 12), (r 5, eI D 12), (r 6, eI D 12), (r 7, eI D 12), (r 8, eI D 12), (r 9, eI D 12), (r 10, eI D 12), (r 11, eI D 12), (r 12, eI D 12), (r 13, eI D 12), (r 14, eI D 12), (r 15, eI D 12), (r 16, eI D 12), (r 17, eI D 12), (r 18, eI D 12), (r 19, eI D 12), (r 20, eI D 12), (r 21, eI D 12), (r 22, eI D 12), (r 23, eI D 12), (a19, eI D 24), (a27, eD D 24)] H51 locs51 := hw
  exact bc_ret C hr hlk (a9, r, a19, a27) hw (Nat.le_of_ble_eq_true rfl) (Nat.le_of_ble_eq_true rfl) d_NE_init_54
abbrev S_RA : Type := Nat × Nat
def G_RA (D : ab_D) (h0 : Nat) (u : S_RA) : va_W := [(h0, .inr (4, [.ref u.1, .ref u.2, .int 0, .int 0])), (u.1, eI D 12), (u.2, eD D 12)]
set_option maxRecDepth 20000 in
theorem c_RA_init (l : Launch) (D : ab_D) (h0 : Nat) (sz : Nat) : bcM l k_RA_init 1 12 D [] h0 4 [.null, .null, .int 0, .int 0] (G_RA D h0) 2 24 sz := by
  refine bc_met (by decide +kernel) (Nat.le_of_ble_eq_true rfl) rfl ?_ sz
  intro p e s m args below meth c A ls C hN hnm hml hr hlk hl hw
  have hl : lv_has ls 1 [(0, .ref h0)] := hl
  refine lv_aload_n C.1 C.2.1 d_RA_init_0 rfl (lv_at hl 0 rfl) ?_
  refine bc_obj C hml hl.1 (idx := 3) (by decide +kernel) obj_i obj_c (Nat.le_of_ble_eq_true rfl) (Nat.le_of_ble_eq_true rfl) d_RA_init_1 ?_
  refine lv_aload_n C.1 C.2.1 d_RA_init_4 rfl (lv_at hl 0 rfl) ?_
  refine lv_bipush (v := 12) C.1 C.2.1 d_RA_init_5 (by decide) ?_
  refine bc_newI C hw (N := 12) (by decide) (by decide) (by decide) (Nat.le_of_ble_eq_true rfl) (Nat.le_of_ble_eq_true rfl) d_RA_init_7 (fun a7 H7 hw => ?_)
  have hw : bcw D A s.heap [(h0, .inr (4, [.null, .null, .int 0, .int 0])), (a7, eI D 12)] H7 [] := hw
  refine bc_put C hnm hw 0 (ci := 4) (k := 0) (N := 4) (T := F_RA) (index := 9) (ty := (.array .int)) (fs := [.null, .null, .int 0, .int 0]) rfl rfl (by decide) mw_151 rfl (by decide +kernel) rfl rfl (Nat.le_of_ble_eq_true rfl) d_RA_init_9 (fun H9 locs9 hw => ?_)
  have hw : bcw D A s.heap [(h0, .inr (4, [.ref a7, .null, .int 0, .int 0])), (a7, eI D 12)] H9 locs9 := hw
  refine lv_aload_n C.1 C.2.1 d_RA_init_12 rfl (lv_at hl 0 rfl) ?_
  refine lv_bipush (v := 12) C.1 C.2.1 d_RA_init_13 (by decide) ?_
  refine bc_newD C hw (N := 12) (by decide) (by decide) (by decide) (Nat.le_of_ble_eq_true rfl) (Nat.le_of_ble_eq_true rfl) d_RA_init_15 (fun a15 H15 hw => ?_)
  have hw : bcw D A s.heap [(h0, .inr (4, [.ref a7, .null, .int 0, .int 0])), (a7, eI D 12), (a15, eD D 12)] H15 locs9 := hw
  refine bc_put C hnm hw 0 (ci := 4) (k := 1) (N := 4) (T := F_RA) (index := 15) (ty := (.array .double)) (fs := [.ref a7, .null, .int 0, .int 0]) rfl rfl (by decide) mw_152 rfl (by decide +kernel) rfl rfl (Nat.le_of_ble_eq_true rfl) d_RA_init_17 (fun H17 locs17 hw => ?_)
  have hw : bcw D A s.heap [(h0, .inr (4, [.ref a7, .ref a15, .int 0, .int 0])), (a7, eI D 12), (a15, eD D 12)] H17 locs17 := hw
  refine lv_aload_n C.1 C.2.1 d_RA_init_20 rfl (lv_at hl 0 rfl) ?_
  refine lv_iconst (v := 0) C.1 C.2.1 d_RA_init_21 (by decide) ?_
  refine bc_put C hnm hw 0 (ci := 4) (k := 2) (N := 4) (T := F_RA) (index := 19) (ty := .int) (fs := [.ref a7, .ref a15, .int 0, .int 0]) rfl rfl (by decide) mw_153 rfl (by decide +kernel) rfl rfl (Nat.le_of_ble_eq_true rfl) d_RA_init_22 (fun H22 locs22 hw => ?_)
  have hw : bcw D A s.heap [(h0, .inr (4, [.ref a7, .ref a15, .int 0, .int 0])), (a7, eI D 12), (a15, eD D 12)] H22 locs22 := hw
  refine lv_aload_n C.1 C.2.1 d_RA_init_25 rfl (lv_at hl 0 rfl) ?_
  refine lv_iconst (v := 0) C.1 C.2.1 d_RA_init_26 (by decide) ?_
  refine bc_put C hnm hw 0 (ci := 4) (k := 3) (N := 4) (T := F_RA) (index := 23) (ty := .int) (fs := [.ref a7, .ref a15, .int 0, .int 0]) rfl rfl (by decide) mw_154 rfl (by decide +kernel) rfl rfl (Nat.le_of_ble_eq_true rfl) d_RA_init_27 (fun H27 locs27 hw => ?_)
  have hw : bcw D A s.heap [(h0, .inr (4, [.ref a7, .ref a15, .int 0, .int 0])), (a7, eI D 12), (a15, eD D 12)] H27 locs27 := hw
  exact bc_ret C hr hlk (a7, a15) hw (Nat.le_of_ble_eq_true rfl) (Nat.le_of_ble_eq_true rfl) d_RA_init_30
abbrev S_MK : Type := Nat × Nat × Nat
def G_MK (D : ab_D) (h0 x1 x2 : Nat) (u : S_MK) : va_W := [(h0, .inr (5, [.ref x1, .ref x2, .ref u.1, .ref u.2.1, .ref u.2.2, .int 0])), (u.1, eD D 16), (u.2.1, eI D 4), (u.2.2, eD D 4)]
set_option maxRecDepth 20000 in
theorem c_MK_init (l : Launch) (D : ab_D) (h0 x1 x2 : Nat) (sz : Nat) : bcM l k_MK_init 1 12 D [.ref x1, .ref x2] h0 5 [.null, .null, .null, .null, .null, .int 0] (G_MK D h0 x1 x2) 3 24 sz := by
  refine bc_met (by decide +kernel) (Nat.le_of_ble_eq_true rfl) rfl ?_ sz
  intro p e s m args below meth c A ls C hN hnm hml hr hlk hl hw
  have hl : lv_has ls 3 [(0, .ref h0), (1, .ref x1), (2, .ref x2)] := hl
  refine lv_aload_n C.1 C.2.1 d_MK_init_0 rfl (lv_at hl 0 rfl) ?_
  refine bc_obj C hml hl.1 (idx := 3) (by decide +kernel) obj_i obj_c (Nat.le_of_ble_eq_true rfl) (Nat.le_of_ble_eq_true rfl) d_MK_init_1 ?_
  refine lv_aload_n C.1 C.2.1 d_MK_init_4 rfl (lv_at hl 0 rfl) ?_
  refine lv_bipush (v := 16) C.1 C.2.1 d_MK_init_5 (by decide) ?_
  refine bc_newD C hw (N := 16) (by decide) (by decide) (by decide) (Nat.le_of_ble_eq_true rfl) (Nat.le_of_ble_eq_true rfl) d_MK_init_7 (fun a7 H7 hw => ?_)
  have hw : bcw D A s.heap [(h0, .inr (5, [.null, .null, .null, .null, .null, .int 0])), (a7, eD D 16)] H7 [] := hw
  refine bc_put C hnm hw 0 (ci := 5) (k := 2) (N := 6) (T := F_MK) (index := 9) (ty := (.array .double)) (fs := [.null, .null, .null, .null, .null, .int 0]) rfl rfl (by decide) mw_172 rfl (by decide +kernel) rfl rfl (Nat.le_of_ble_eq_true rfl) d_MK_init_9 (fun H9 locs9 hw => ?_)
  have hw : bcw D A s.heap [(h0, .inr (5, [.null, .null, .ref a7, .null, .null, .int 0])), (a7, eD D 16)] H9 locs9 := hw
  refine lv_aload_n C.1 C.2.1 d_MK_init_12 rfl (lv_at hl 0 rfl) ?_
  refine lv_iconst (v := 4) C.1 C.2.1 d_MK_init_13 (by decide) ?_
  refine bc_newI C hw (N := 4) (by decide) (by decide) (by decide) (Nat.le_of_ble_eq_true rfl) (Nat.le_of_ble_eq_true rfl) d_MK_init_14 (fun a14 H14 hw => ?_)
  have hw : bcw D A s.heap [(h0, .inr (5, [.null, .null, .ref a7, .null, .null, .int 0])), (a7, eD D 16), (a14, eI D 4)] H14 locs9 := hw
  refine bc_put C hnm hw 0 (ci := 5) (k := 3) (N := 6) (T := F_MK) (index := 15) (ty := (.array .int)) (fs := [.null, .null, .ref a7, .null, .null, .int 0]) rfl rfl (by decide) mw_173 rfl (by decide +kernel) rfl rfl (Nat.le_of_ble_eq_true rfl) d_MK_init_16 (fun H16 locs16 hw => ?_)
  have hw : bcw D A s.heap [(h0, .inr (5, [.null, .null, .ref a7, .ref a14, .null, .int 0])), (a7, eD D 16), (a14, eI D 4)] H16 locs16 := hw
  refine lv_aload_n C.1 C.2.1 d_MK_init_19 rfl (lv_at hl 0 rfl) ?_
  refine lv_iconst (v := 4) C.1 C.2.1 d_MK_init_20 (by decide) ?_
  refine bc_newD C hw (N := 4) (by decide) (by decide) (by decide) (Nat.le_of_ble_eq_true rfl) (Nat.le_of_ble_eq_true rfl) d_MK_init_21 (fun a21 H21 hw => ?_)
  have hw : bcw D A s.heap [(h0, .inr (5, [.null, .null, .ref a7, .ref a14, .null, .int 0])), (a7, eD D 16), (a14, eI D 4), (a21, eD D 4)] H21 locs16 := hw
  refine bc_put C hnm hw 0 (ci := 5) (k := 4) (N := 6) (T := F_MK) (index := 19) (ty := (.array .double)) (fs := [.null, .null, .ref a7, .ref a14, .null, .int 0]) rfl rfl (by decide) mw_174 rfl (by decide +kernel) rfl rfl (Nat.le_of_ble_eq_true rfl) d_MK_init_23 (fun H23 locs23 hw => ?_)
  have hw : bcw D A s.heap [(h0, .inr (5, [.null, .null, .ref a7, .ref a14, .ref a21, .int 0])), (a7, eD D 16), (a14, eI D 4), (a21, eD D 4)] H23 locs23 := hw
  refine lv_aload_n C.1 C.2.1 d_MK_init_26 rfl (lv_at hl 0 rfl) ?_
  refine lv_iconst (v := 0) C.1 C.2.1 d_MK_init_27 (by decide) ?_
  refine bc_put C hnm hw 0 (ci := 5) (k := 5) (N := 6) (T := F_MK) (index := 22) (ty := .int) (fs := [.null, .null, .ref a7, .ref a14, .ref a21, .int 0]) rfl rfl (by decide) mw_175 rfl (by decide +kernel) rfl rfl (Nat.le_of_ble_eq_true rfl) d_MK_init_28 (fun H28 locs28 hw => ?_)
  have hw : bcw D A s.heap [(h0, .inr (5, [.null, .null, .ref a7, .ref a14, .ref a21, .int 0])), (a7, eD D 16), (a14, eI D 4), (a21, eD D 4)] H28 locs28 := hw
  refine lv_aload_n C.1 C.2.1 d_MK_init_31 rfl (lv_at hl 0 rfl) ?_
  refine lv_aload_n C.1 C.2.1 d_MK_init_32 rfl (lv_at hl 1 rfl) ?_
  refine bc_put C hnm hw 0 (ci := 5) (k := 0) (N := 6) (T := F_MK) (index := 26) (ty := (.object "BeliefForge$Texts")) (fs := [.null, .null, .ref a7, .ref a14, .ref a21, .int 0]) rfl rfl (by decide) mw_170 rfl (by decide +kernel) rfl rfl (Nat.le_of_ble_eq_true rfl) d_MK_init_33 (fun H33 locs33 hw => ?_)
  have hw : bcw D A s.heap [(h0, .inr (5, [.ref x1, .null, .ref a7, .ref a14, .ref a21, .int 0])), (a7, eD D 16), (a14, eI D 4), (a21, eD D 4)] H33 locs33 := hw
  refine lv_aload_n C.1 C.2.1 d_MK_init_36 rfl (lv_at hl 0 rfl) ?_
  refine lv_aload_n C.1 C.2.1 d_MK_init_37 rfl (lv_at hl 2 rfl) ?_
  refine bc_put C hnm hw 0 (ci := 5) (k := 1) (N := 6) (T := F_MK) (index := 30) (ty := (.object "BeliefForge$Ranking")) (fs := [.ref x1, .null, .ref a7, .ref a14, .ref a21, .int 0]) rfl rfl (by decide) mw_171 rfl (by decide +kernel) rfl rfl (Nat.le_of_ble_eq_true rfl) d_MK_init_38 (fun H38 locs38 hw => ?_)
  have hw : bcw D A s.heap [(h0, .inr (5, [.ref x1, .ref x2, .ref a7, .ref a14, .ref a21, .int 0])), (a7, eD D 16), (a14, eI D 4), (a21, eD D 4)] H38 locs38 := hw
  exact bc_ret C hr hlk (a7, a14, a21) hw (Nat.le_of_ble_eq_true rfl) (Nat.le_of_ble_eq_true rfl) d_MK_init_41
