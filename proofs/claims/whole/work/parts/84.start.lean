theorem lw_end {below : List Frame} {args : Array Value} {s t : State} {D : ab_D} {q : Nat → Nat} (hq : ∀ a, ab_A sys q s.heap.size a → s.heap.size ≤ a) (h : ab_Z sys k_LA_law D q (fun r _ => r = .inl (some (.int (nI 1)))) below args s t) : lw_Z below args s t := by
  obtain ⟨o, a1, a2, ⟨r, M, b1, b2, -⟩, a4, L, a5, a6⟩ := h
  subst b2
  have e : o = .returned (some (.int 1)) := b1
  subst e
  refine ⟨_, a1, a2, rfl, ⟨_, rfl⟩, a4, ?_⟩
  obtain ⟨g1, g2, g3, g4, g5, g6⟩ := a5
  refine ⟨g1, g2, g3, g4, g5, fun a c hc => ?_⟩
  obtain ⟨c', f1, f2, f3, f4⟩ := g6 a c hc
  refine ⟨c', f1, f2, f3, fun i _ => f4 i (fun hm => ?_)⟩
  have h1 := hq _ (a6 _ hm)
  have h2 : a < s.heap.size := (Array.getElem?_eq_some_iff.mp hc).1
  have h3 : s.heap.size ≤ a := h1
  exact absurd h2 (Nat.not_lt.mpr h3)
set_option maxHeartbeats 4000000 in
set_option maxRecDepth 40000 in
/-- THE LAW, from its entry -/
theorem whole_start {p : Program} {e : Env} {s : State} {m : MethodId} {below : List Frame} {meth : Method} {c : Code} (l : Launch) (hst : l.stackTraces = false) {b L : Nat} {xs : Nat → Int32} (hL : L ≤ 2048) (C0 : lw_At p s m meth c b L xs) (hex : c.exceptionTable.toList.map (fun h => (h.startPc, h.endPc, h.handlerPc, h.catchType)) = []) : W p l e room_1 s m #[Value.ref b] below meth c s.heap [] 0 0 (lw_Z below #[Value.ref b] s) (entryFrame m ([Value.ref b] : List Value).toArray 9) := by
  obtain ⟨hx, hb, hr, hml, hown, hts, hX, hbl, hlocks, hgv⟩ := id C0
  have hts' : ∀ w ∈ sysW, w.before #[Value.ref b] s = true := fun w hw => hts w (List.mem_filter.mp hw).1
  obtain ⟨hN, hNe, hXt, hZs⟩ := lw_facts hts hgv
  obtain ⟨D, hK⟩ := bcD hts' hN.1
  have C : bcx k_LA_law D p s m #[Value.ref b] c := ⟨hx, hb, hown, hts', hK⟩
  have hml' : c.maxLocals = kL k_LA_law := hml
  have hw : bcw D (fun q => s.heap.size ≤ q) s.heap [] s.heap [] := ⟨fun k q h => by simp at h, ⟨fun i j p q h => by simp at h, fun k q h => by simp at h⟩, va_S.rf, fun _ h => h⟩
  have hl := lv_entry ([.ref b]) (n := 9) (Nat.le_of_ble_eq_true rfl)
  rw [lg_entry_eq]
  generalize (lg_sl ([.ref b]) ++ List.replicate (9 - (lg_sl ([.ref b])).length) Slot.unset).toArray = ls at hl ⊢
  have hl : lv_has ls 9 [(0, .ref b)] := hl
  refine bc_new C hw (ci := 0) (N := 5) (index := 8) (Cn := "BeliefForge") (T := F_BF) (fs := [.null, .null, .null, .null, .null]) rfl (by decide +kernel) (by decide +kernel) (by decide +kernel) (fun j hj => by rcases (show j = 0 ∨ j = 1 ∨ j = 2 ∨ j = 3 ∨ j = 4 by omega) with rfl | rfl | rfl | rfl | rfl <;> rfl) (Nat.le_of_ble_eq_true rfl) (Nat.le_of_ble_eq_true rfl) d_LA_law_0 (fun q0 H0 hw => ?_)
  refine lv_dup C.1 C.2.1 d_LA_law_3 rfl ?_
  refine bc_callI (K' := k_BF_init) (d := 2) (w := 34) (As := []) (rest := [.ref q0]) (index := 61) (G := G_BF D q0) C hN hml' hl.1 hw (fun sz => c_BF_init l D q0 sz) si_BF (by decide +kernel) rfl (Nat.le_of_ble_eq_true rfl) ⟨Nat.le_of_ble_eq_true rfl, Nat.le_of_ble_eq_true rfl⟩ (Nat.le_of_ble_eq_true rfl) (Nat.le_of_ble_eq_true rfl) d_LA_law_4 (fun u4 H4 locs4 hw => ?_)
  have hw : bcw D (fun q => s.heap.size ≤ q) s.heap (G_BF D q0 u4) H4 locs4 := hw
  refine lv_astore_n (lv' := [(1, .ref q0), (0, .ref b)]) C.1 C.2.1 d_LA_law_7 rfl hl (by decide) rfl (fun ls hl => ?_)
  refine bc_new C hw (ci := 6) (N := 20) (index := 62) (Cn := "BeliefForgeModel") (T := F_MO) (fs := [.int 0, .null, .null, .null, .int 0, .null, .null, .null, .int 0, .int 0, .double 0, .null, .null, .null, .int 0, .int 0, .null, .null, .int 0, .int 0]) rfl (by decide +kernel) (by decide +kernel) (by decide +kernel) (fun j hj => by rcases (show j = 0 ∨ j = 1 ∨ j = 2 ∨ j = 3 ∨ j = 4 ∨ j = 5 ∨ j = 6 ∨ j = 7 ∨ j = 8 ∨ j = 9 ∨ j = 10 ∨ j = 11 ∨ j = 12 ∨ j = 13 ∨ j = 14 ∨ j = 15 ∨ j = 16 ∨ j = 17 ∨ j = 18 ∨ j = 19 by omega) with rfl | rfl | rfl | rfl | rfl | rfl | rfl | rfl | rfl | rfl | rfl | rfl | rfl | rfl | rfl | rfl | rfl | rfl | rfl | rfl <;> rfl) (Nat.le_of_ble_eq_true rfl) (Nat.le_of_ble_eq_true rfl) d_LA_law_8 (fun q8 H8 hw => ?_)
  refine lv_dup C.1 C.2.1 d_LA_law_11 rfl ?_
  refine bc_callI (K' := k_MO_init) (d := 1) (w := 12) (As := []) (rest := [.ref q8]) (index := 64) (G := G_MO D q8) C hN hml' hl.1 hw (fun sz => c_MO_init l D q8 sz) si_MO (by decide +kernel) rfl (Nat.le_of_ble_eq_true rfl) ⟨Nat.le_of_ble_eq_true rfl, Nat.le_of_ble_eq_true rfl⟩ (Nat.le_of_ble_eq_true rfl) (Nat.le_of_ble_eq_true rfl) d_LA_law_12 (fun u12 H12 locs12 hw => ?_)
  refine lv_astore_n (lv' := [(2, .ref q8), (1, .ref q0), (0, .ref b)]) C.1 C.2.1 d_LA_law_15 rfl hl (by decide) rfl (fun ls hl => ?_)
  refine lv_iconst (v := 1) C.1 C.2.1 d_LA_law_16 (by decide) ?_
  refine bc_newJ C hw (N := 1) (by decide) (by decide) (by decide) (Nat.le_of_ble_eq_true rfl) (Nat.le_of_ble_eq_true rfl) d_LA_law_17 (fun a17 H17 hw => ?_)
  refine lv_astore_n (lv' := [(3, .ref a17), (2, .ref q8), (1, .ref q0), (0, .ref b)]) C.1 C.2.1 d_LA_law_19 rfl hl (by decide) rfl (fun ls hl => ?_)
  refine lv_iconst (v := 1) C.1 C.2.1 d_LA_law_20 (by decide) ?_
  refine bc_newD C hw (N := 1) (by decide) (by decide) (by decide) (Nat.le_of_ble_eq_true rfl) (Nat.le_of_ble_eq_true rfl) d_LA_law_21 (fun a21 H21 hw => ?_)
  refine lv_astore (lv' := [(4, .ref a21), (3, .ref a17), (2, .ref q8), (1, .ref q0), (0, .ref b)]) C.1 C.2.1 d_LA_law_23 hl (by decide) rfl (fun ls hl => ?_)
  refine lv_iconst (v := 0) C.1 C.2.1 d_LA_law_25 (by decide) ?_
  refine lv_istore (lv' := [(5, .int 0), (4, .ref a21), (3, .ref a17), (2, .ref q8), (1, .ref q0), (0, .ref b)]) C.1 C.2.1 d_LA_law_26 hl (by decide) rfl (fun ls hl => ?_)
  obtain ⟨⟨qT, aW, rW, aL, aT⟩, ⟨qQ, k1, k2, k3, k4⟩, ⟨qN, aF, rF, e1, e2⟩, ⟨qR, d1, d2⟩, qM, m1, m2, m3⟩ := u4
  obtain ⟨o1, o2, o3, o4, o5, o6, o7, o8, o9, o10, o11⟩ := u12
  obtain ⟨q, rfl, rfl, rfl, rfl, hb71, hP, hD⟩ := bc_world b hw
  have hge : ∀ a, ab_A sys q s.heap.size a → s.heap.size ≤ a := by
    intro a ha
    rcases ha with ⟨id, hid, rfl⟩ | ha
    · exact hD.2 id _ (ab_W_at hid)
    · exact ha
  have hnA : ∀ a : Nat, a < s.heap.size → ¬ ab_A sys q s.heap.size a := fun a h1 h2 => Nat.lt_irrefl _ (Nat.lt_of_lt_of_le h1 (hge a h2))
  have hC : ab_C sys k_LA_law p s m #[Value.ref b] meth c D q := ⟨hx, hb, hml, hr, hlocks, hown, hts', hex, hNe, hK, sys_ok, hZs _ hnA, hXt⟩
  have hZ9 : ab_Zs9 sys 71 b L xs q s := ⟨hb71, hX, hbl, hnA b hbl⟩
  have hS : ab_S sys D q M0 s H21 locs12 := ⟨hP, hD.weaken (fun _ _ _ h => Or.inr h), hw.2.2.1.1, fun a h1 h2 => hw.2.2.1.2.1 a h1 (fun h => h2 (Or.inr h)), fun z hz => Or.inr (hw.2.2.1.2.2 z hz)⟩
  have hl9 : lv_has ls 9 [(5, .int 0), (0, .ref b), (1, .ref (q 0)), (2, .ref (q 57)), (3, .ref (q 69)), (4, .ref (q 70))] := lv_sub hl [0, 5, 4, 3, 2, 1] rfl
  have hl10 : lv_has ls (kL k_LA_law) (([(5, .int (nI (4 * 0))), (0, .ref 71), (1, .ref 0), (2, .ref 57), (3, .ref 69), (4, .ref 70)] : List (Nat × Value)).map (ab_p q)) := by
    rw [← hb71] at hl9
    exact hl9
  refine W.smaller (R' := ab_R k_LA_law 9 207) (Nat.le_of_ble_eq_true rfl) (Nat.le_of_ble_eq_true rfl) (Nat.le_of_ble_eq_true rfl) (Nat.le_of_ble_eq_true rfl) ?_
  refine ab_mono (Q := ab_Z sys k_LA_law D q (fun r _ => r = .inl (some (.int (nI 1)))) below #[Value.ref b] s) (fun t ht => lw_end hge ht) ?_
  refine W.widen (k := 71) (n := 1364) (Nat.le_of_ble_eq_true rfl) (Nat.le_of_ble_eq_true rfl) ?_
  exact L_loop hst hL (Q := fun r _ => r = .inl (some (.int (nI 1)))) (fun _ => rfl) 600 0 D0 T0 S0 R0 M0 71 1364 rfl (by omega) (by omega) (by omega) INV0 p e s m _ below meth c D q H21 locs12 ls hC hZ9 hS hl10
