/-! calls: a callee's judgement is its contract -/
def ab_ret (P : Option Value → ab_M → Prop) : ab_O → ab_M → Prop := fun r M => match r with
  | .inl v => P v M
  | .inr _ => False
theorem ab_largs (q : Nat → Nat) : ∀ (vs : List Value) (i : Nat), lv_args i (vs.map (ab_v q)) = (lv_args i vs).map (ab_p q)
  | [], _ => rfl
  | v :: vs, i => by
    simp only [List.map_cons, lv_args, ab_cat, ab_largs q vs]
    rfl
theorem ab_lsl (q : Nat → Nat) : ∀ (vs : List Value), (lg_sl (vs.map (ab_v q))).length = (lg_sl vs).length
  | [] => rfl
  | v :: vs => by
    have ih := ab_lsl q vs
    simp only [lg_sl, List.map_cons, List.flatMap_cons, List.length_append, ab_cat] at ih ⊢
    rw [ih]
    split <;> rfl
theorem ab_A_new {Y : ab_Y} {q : Nat → Nat} {a b : Nat} (h : a ≤ b) : ∀ x, ab_A Y q b x → ab_A Y q a x := by
  intro x hx
  rcases hx with hx | hx
  · exact Or.inl hx
  · exact Or.inr (Nat.le_trans h hx)
theorem ab_D_any {Y : ab_Y} {D : ab_D} {q : Nat → Nat} {M M' : ab_M} {A A' : Nat → Prop} (h : va_D A (ab_W Y D q M)) (hA : ∀ id, id < (yL Y).length → A' (q id)) : va_D A' (ab_W Y D q M') := by
  have key : ∀ (N : ab_M) (k : Nat) (x : Nat × va_E), (ab_W Y D q N)[k]? = some x → k < (yL Y).length ∧ x.1 = q k := by
    intro N k x hx
    have hl : k < (yL Y).length := by
      have := (List.getElem?_eq_some_iff.mp hx).1
      simpa [ab_W] using this
    rw [ab_W_at hl] at hx
    exact ⟨hl, by rw [← Option.some.inj hx]⟩
  refine ⟨fun i j x y hi hj hxy => ?_, fun k x hk => ?_⟩
  · obtain ⟨l1, e1⟩ := key M' i x hi
    obtain ⟨l2, e2⟩ := key M' j y hj
    exact h.1 i j _ _ (ab_W_at l1) (ab_W_at l2) (by show q i = q j; rw [← e1, ← e2]; exact hxy)
  · obtain ⟨l1, e1⟩ := key M' k x hk
    rw [e1]
    exact hA k l1
theorem ab_B_moved {Y : ab_Y} {D : ab_D} {q : Nat → Nat} {s U : State} {H : Heap} {locs : List Loc} (hB : ab_B Y D q s) (hS : va_S (ab_A Y q s.heap.size) s.heap H locs) (hH : U.heap = H) (hW : s.WarmedH U.vm) : ab_B Y D q U := by
  obtain ⟨b1, b2, b3, ⟨b4, b5⟩, b6⟩ := hB
  have hk : ∀ a : Nat, a < s.heap.size → ¬ ab_A Y q s.heap.size a → U.heap[a]? = s.heap[a]? := by rw [hH]; exact hS.2.1
  have hn : ∀ x, ab_A Y q U.heap.size x → ab_A Y q s.heap.size x := ab_A_new (by rw [hH]; exact hS.1)
  exact ⟨fun r hr => va_Nw.warmM hW (b1 r hr), va_K.moved hW.alike b2, b3, ⟨((b4.kept hk).narrow hn).moved hW.alike, ((b5.kept hk).narrow hn).moved hW.alike⟩, fun y hy => va_Nw.warmD hW (b6.1 y hy), fun r hr => va_Nw.warmC hW (b6.2.1 r hr), fun r hr => va_Nc.moved hW.alike (b6.2.2.1 r hr), fun r hr => (b6.2.2.2 r hr).elim fun a ha => ⟨a, vk_R.warm hW ha⟩⟩
/-- the contract of a method, out of its judgement -/
def ab_Pc (Y : ab_Y) (D : ab_D) (q : Nat → Nat) (As : List Value) (M : ab_M) (sz : Nat) : Array Value → State → Prop := fun a U =>
  a = (As.map (ab_v q)).toArray ∧ U.heap.size = sz ∧ ab_B Y D q U ∧ va_P D.1 (yC Y) (ab_W Y D q M) U.heap ∧ va_D (ab_A Y q sz) (ab_W Y D q M)
theorem ab_body {Y : ab_Y} {l : Launch} {K : ab_K} {d w : Nat} {As : List Value} {M : ab_M} {Q : ab_O → ab_M → Prop} (hlen : (lg_sl As).length ≤ kL K) (h : AW Y l ab_Zt K d w 0 (lv_args 0 As) [] M 0 0 Q)
    {p : Program} {e : Env} {s : State} {m : MethodId} {args : Array Value} {below : List Frame} {meth : Method} {c : Code} {D : ab_D} {q : Nat → Nat} {sz : Nat} (hC : ab_C Y K p s m args meth c D q) (hP : ab_Pc Y D q As M sz args s) :
    W p l e (ab_R K d w) s m args below meth c s.heap [] 0 0 (ab_Z Y K D q Q below args s) (entryFrame m args (kL K)) := by
  obtain ⟨rfl, rfl, hB, hP1, hD1⟩ := hP
  have hl := lv_entry (As.map (ab_v q)) (n := kL K) (by rw [ab_lsl]; exact hlen)
  rw [lg_entry_eq]
  rw [ab_largs] at hl
  exact h p e s m _ below meth c D q s.heap [] _ hC trivial ⟨hP1, hD1, va_S.rf⟩ hl
theorem ab_ctx {Y : ab_Y} {K : ab_K} {l : Launch} {d w : Nat} {p : Program} {e : Env} {s : State} {m : MethodId} {args : Array Value} {below : List Frame} {meth : Method} {c : Code} {s₁ : State} {D : ab_D} {q : Nat → Nat}
    (B : BodyLoose p l (kY K) (headSpec (ab_cw K :: yW Y) (ab_R K d w)) (kB K) (kL K) (kT K) e s m args below meth c s₁) (hml : c.maxLocals = kL K) (hB : ab_B Y D q s) : ab_C Y K p s m args meth c D q := by
  have hts := atoms_spec (ws := ab_cw K :: yW Y) B.pre
  refine ⟨B.exec, B.bytes, hml, B.returns, B.notSynchronized, findClass_of_methodNamed B.named, fun w hw => hts w (List.mem_cons_of_mem _ hw), ?_, hB⟩
  have hcw := hts _ List.mem_cons_self
  unfold ab_cw at hcw
  split at hcw
  · next hh =>
    have he := BodyLoose.noHandlers B hcw
    have e0 : kH K = [] := List.isEmpty_iff.mp hh
    have e1 : c.exceptionTable = #[] := by simpa using he
    rw [e0, e1]; rfl
  · obtain ⟨m9, meth9, c9, hn9, h1, h2, -, -, h5, -⟩ := Cond.codeWith_spec hcw
    cases B.named.symm.trans hn9
    cases B.method.symm.trans h1
    cases (Stand.of_body B).code.symm.trans h2
    exact h5
theorem ab_cw0 {K : ab_K} {ws : List Cond} (h : kH K = []) : ab_cw K :: ws = Cond.code (kY K) (kB K) (kL K) (kT K) :: ws := by simp [ab_cw, h]
theorem ab_met {Y : ab_Y} {l : Launch} {K : ab_K} {d w : Nat} {As : List Value} {M : ab_M} {P : Option Value → ab_M → Prop} (hy : plainName (kY K).cls = true) (hh : kH K = []) (hlen : (lg_sl As).length ≤ kL K) (h : AW Y l ab_Zt K d w 0 (lv_args 0 As) [] M 0 0 (ab_ret P)) (D : ab_D) (q : Nat → Nat) (sz : Nat) :
    Met l (kY K) (ab_cw K :: yW Y) (ab_R K d w) (ab_Pc Y D q As M sz) (ab_Qc Y D q (ab_ret P)) (kC K) (kS K) (ab_A Y q sz) := by
  refine Met.ofW (cc := kB K) (maxL := kL K) (ret := kT K) (ws' := yW Y) hy (ab_cw0 hh) ?_
  intro p e s m args below meth c s₁ B hml hv
  have hsz : s.heap.size = sz := hv.2.1
  refine ab_mono (fun t ht => ?_) (ab_body hlen h (ab_ctx B hml hv.2.2.1) hv)
  obtain ⟨o, a1, a2, a3, a4, L, a5, a6⟩ := ht
  refine ⟨o, a1, a2, a3, L, ⟨?_, a4, a5⟩, fun z hz => by rw [← hsz]; exact a6 z hz⟩
  obtain ⟨r, M', b1, b2, -⟩ := a3
  cases r with
  | inl v => exact ⟨_, b1⟩
  | inr E => exact b2.elim
/-- behind a run of a call -/
theorem ab_back {Y : ab_Y} {l : Launch} {Z : (Nat → Nat) → State → Prop} {K K' : ab_K} {d w pc : Nat} {lv : List (Nat × Value)} {M : ab_M} {n1 n2 : Nat} {Q : ab_O → ab_M → Prop} {rest st0 : List Value}
    {p : Program} {e : Env} {s : State} {m : MethodId} {args : Array Value} {below : List Frame} {meth : Method} {c : Code} {D : ab_D} {q : Nat → Nat} {H : Heap} {locs : List Loc} {ls : Array Slot} {a : Array Value}
    (C : ab_C Y K p s m args meth c D q) (hZ : Z q s) (S : ab_S Y D q M s H locs) (hl : lv_has ls (kL K) (lv.map (ab_p q)))
    (hr : va_Run p l e (ab_R K d w) s m args below meth c H locs n1 n2 (kC K') (kS K') (F0 m pc ls st0) (rest.map (ab_v q)) (ab_Qc Y D q (ab_ret (fun v M' => AW Y l Z K d w (pc + 3) lv (v.toList ++ rest) M' (n1 + kC K') (n2 + kS K') Q)) a) (ab_A Y q H.size)) :
    W p l e (ab_R K d w) s m args below meth c H locs n1 n2 (ab_Z Y K D q Q below args s) (F0 m pc ls st0) := by
  intro T hT X
  obtain ⟨v, st₀, t, T', L, h0, X', hL, e1, e2, ⟨r, M', b1, b2, b3, b4, b5⟩, go⟩ := hr T hT X
  have hAA : ∀ x, ab_A Y q H.size x → ab_A Y q s.heap.size x := ab_A_new S.2.2.1
  cases r with
  | inr E => exact b2.elim
  | inl vr =>
    have hw : v = vr.map (ab_v q) := by
      have : Outcome.returned v = Outcome.returned (vr.map (ab_v q)) := b1
      cases this; rfl
    subst hw
    rw [h0] at b4 b5
    have hS' : va_S (ab_A Y q s.heap.size) s.heap T'.heap (locs ++ L) := by
      refine ⟨Nat.le_trans S.2.2.1 (by rw [e1]; exact b4), fun x h1 h2 => ?_, fun z hz => ?_⟩
      · rw [e1, b5 x (Nat.lt_of_lt_of_le h1 S.2.2.1) (fun z => h2 (hAA _ z))]
        exact S.2.2.2.1 x h1 h2
      · rcases List.mem_append.mp hz with h | h
        · exact S.2.2.2.2 z h
        · exact hAA _ (hL z h)
    have hk : AW Y l Z K d w (pc + 3) lv (vr.toList ++ rest) M' (n1 + kC K') (n2 + kS K') Q := b2
    have hD' : va_D (ab_A Y q s.heap.size) (ab_W Y D q M') := ab_D_any S.2.1 (fun id h => Or.inl ⟨id, h, rfl⟩)
    obtain ⟨t2, a1, a2⟩ := hk p e s m args below meth c D q T'.heap (locs ++ L) ls C hZ ⟨by rw [e1]; exact b3, hD', hS'⟩ hl T' rfl X'
    refine ⟨t2, go t2 ?_, a2⟩
    have hst : (vr.toList ++ rest).map (ab_v q) = (vr.map (ab_v q)).toList ++ rest.map (ab_v q) := by cases vr <;> simp
    rw [hst] at a1
    exact a1
theorem ab_B_call {Y : ab_Y} {D : ab_D} {q : Nat → Nat} {U : State} {g : JFrame} {mk : MethodId} {a : Array Value} (h : ab_B Y D q U) : ab_B Y D q (U.calling g mk a) :=
  ⟨fun r hr => va_Nw.same rfl rfl (h.1 r hr), va_K.moved (u := U) (U := U.calling g mk a) (Vm.Alike.refl U.vm) h.2.1, h.2.2.1, ⟨vx_Zq.moved (u := U) (U := U.calling g mk a) (Vm.Alike.refl U.vm) h.2.2.2.1.1, vx_Zq.moved (u := U) (U := U.calling g mk a) (Vm.Alike.refl U.vm) h.2.2.2.1.2⟩, fun y hy => va_Nw.same rfl rfl (h.2.2.2.2.1 y hy), fun r hr => va_Nw.same rfl rfl (h.2.2.2.2.2.1 r hr), fun r hr => va_Nc.moved (u := U) (U := U.calling g mk a) (Vm.Alike.refl U.vm) (h.2.2.2.2.2.2.1 r hr), fun r hr => (h.2.2.2.2.2.2.2 r hr).elim fun z hz => ⟨z, vk_R.same (u := U) (U := U.calling g mk a) rfl hz⟩⟩
theorem ab_blind {Y : ab_Y} {D : ab_D} {q : Nat → Nat} {As : List Value} {M : ab_M} {sz : Nat} : FrameBlind (ab_Pc Y D q As M sz) := fun a U g mk h => ⟨h.1, h.2.1, ab_B_call h.2.2.1, h.2.2.2.1, h.2.2.2.2⟩
theorem ab_sum (q : Nat → Nat) (vs : List Value) : ((vs.map (ab_v q)).map fun v => v.category).sum = (vs.map fun v => v.category).sum := by
  rw [List.map_map]
  congr 1
  apply List.map_congr_left
  intro v _
  exact ab_cat q v
theorem ab_good {Y : ab_Y} (hok : ab_ok Y) {ws : List Cond} (h : ∀ w ∈ ws, w ∈ yW Y) : GoodIn (yW Y) ws := fun w hw => ⟨h w hw, hok.2 w (h w hw)⟩
theorem ab_pre {Y : ab_Y} {K : ab_K} {D : ab_D} {q : Nat → Nat} {As : List Value} {M : ab_M} {p : Program} {s : State} {m : MethodId} {args : Array Value} {meth : Method} {c : Code} {H : Heap} {locs : List Loc} (C : ab_C Y K p s m args meth c D q) (S : ab_S Y D q M s H locs) (U : State) (hU : U.heap = H) (hW : s.WarmedH U.vm) : ab_Pc Y D q As M H.size (As.map (ab_v q)).toArray U :=
  ⟨rfl, by rw [hU], ab_B_moved C.2.2.2.2.2.2.2.2 S.2.2 hU hW, by rw [hU]; exact S.1, ab_D_any S.2.1 (fun id h => Or.inl ⟨id, h, rfl⟩)⟩
/-- what must be so at a call: words, names, numbers -/
abbrev ab_site (Y : ab_Y) (K' : ab_K) (ws : List Cond) (n : Nat) : Prop := (∀ w ∈ ws, w ∈ yW Y) ∧ ((kY K').cls ≠ "java/lang/invoke/MethodHandle" ∧ (kY K').cls ≠ "java/lang/invoke/VarHandle" ∧ (parseMethodDescriptor (kY K').desc).map (fun d => d.parameters.length) = some n) ∧ plainName (kY K').cls = true ∧ kH K' = []
/-- the same where the callee has handlers -/
abbrev ab_siteW (Y : ab_Y) (K' : ab_K) (ws : List Cond) (n : Nat) : Prop := (∀ w ∈ ws, w ∈ yW Y) ∧ ((kY K').cls ≠ "java/lang/invoke/MethodHandle" ∧ (kY K').cls ≠ "java/lang/invoke/VarHandle" ∧ (parseMethodDescriptor (kY K').desc).map (fun d => d.parameters.length) = some n) ∧ plainName (kY K').cls = true
theorem ab_ws3 {a b c : Cond} {L : List Cond} (ha : a ∈ L) (hb : b ∈ L) (hc : c ∈ L) : ∀ w ∈ ([a, b] : List Cond) ++ [c], w ∈ L := by
  intro w hw
  simp only [List.cons_append, List.nil_append, List.mem_cons, List.not_mem_nil, or_false] at hw
  rcases hw with rfl | rfl | rfl <;> assumption
theorem ab_ws4 {a b c d : Cond} {L : List Cond} (ha : a ∈ L) (hb : b ∈ L) (hc : c ∈ L) (hd : d ∈ L) : ∀ w ∈ ([a, b, c] : List Cond) ++ [d], w ∈ L := by
  intro w hw
  simp only [List.cons_append, List.nil_append, List.mem_cons, List.not_mem_nil, or_false] at hw
  rcases hw with rfl | rfl | rfl | rfl <;> assumption
theorem ab_ws5 {a b c d e : Cond} {L : List Cond} (ha : a ∈ L) (hb : b ∈ L) (hc : c ∈ L) (hd : d ∈ L) (he : e ∈ L) : ∀ w ∈ ([a, b, c, d] : List Cond) ++ [e], w ∈ L := by
  intro w hw
  simp only [List.cons_append, List.nil_append, List.mem_cons, List.not_mem_nil, or_false] at hw
  rcases hw with rfl | rfl | rfl | rfl | rfl <;> assumption
section AC
variable {Y : ab_Y} {l : Launch} {Z : (Nat → Nat) → State → Prop} {K K' : ab_K} {d w d' w' pc : Nat} {lv : List (Nat × Value)} {st : List Value} {M : ab_M} {n1 n2 : Nat} {Q : ab_O → ab_M → Prop} {As rest : List Value}
theorem ab_wsG (hok : ab_ok Y) {w0 : List Cond} (h : ∀ w ∈ w0 ++ [ab_cw K'], w ∈ yW Y) : GoodIn (yW Y) (w0 ++ (ab_cw K' :: yW Y)) := by
  refine ab_good hok (fun w hw => ?_)
  rcases List.mem_append.mp hw with h1 | h1
  · exact h w (List.mem_append_left _ h1)
  · rcases List.mem_cons.mp h1 with h2 | h2
    · exact h w (List.mem_append_right _ (by rw [h2]; exact List.mem_singleton_self _))
    · exact h2
theorem aw_callV {b ci N index : Nat} {C : String} {T : u_T} (hd : decode (kB K) pc = .ok (.invokevirtual index, 3)) (hL : (yL Y)[b]? = some (0, ci, N)) (hC : (yC Y)[ci]? = some (C, T, N)) (hcl : (kY K').cls = C)
    (hx : ab_site Y K' (wsV (kY K).cls index C (kY K') [ab_cw K']) As.length) (hst : st = As.reverse ++ .ref b :: rest) (hlen : (lg_sl (.ref b :: As)).length ≤ kL K') (hr : (rest.map fun v => v.category).sum ≤ 8) (h1 : n1 + kC K' ≤ kC K) (h2 : n2 + kS K' ≤ kS K) (hd1 : d' + 1 ≤ d) (hw1 : 19 + kL K' + w' ≤ w)
    (h : AW Y l ab_Zt K' d' w' 0 (lv_args 0 (.ref b :: As)) [] M 0 0 (ab_ret (fun v M' => AW Y l Z K d w (pc + 3) lv (v.toList ++ rest) M' (n1 + kC K') (n2 + kS K') Q))) : AW Y l Z K d w pc lv st M n1 n2 Q := by
  intro p e s m args below meth c D q H locs ls C0 hZ S hl
  obtain ⟨x1, x2, x3, x4⟩ := hx
  have hok := C0.2.2.2.2.2.2.2.2.2.2.1
  refine ab_back (K' := K') (rest := rest) C0 hZ S hl (va_runV (As := As.map (ab_v q)) (b := q b) ⟨C0.1, C0.2.1, C0.2.2.1, C0.2.2.2.2.2.1, C0.2.2.2.2.2.2.1⟩ (ab_met x3 x4 hlen h D q H.size)
    (cwV As.length C0.2.2.2.2.2.2.1 (ab_wsG hok x1) (ws' := yW Y) (ab_cw0 x4) rfl rfl ⟨hcl, x2⟩ ⟨hd1, by show 8 + (kL K' + 11) + w' ≤ w; omega⟩)
    ⟨ab_blind, va_recv C0.2.2.2.2.2.2.2.2.2.1 S.1 hC (ab_at0 hL), fun U hU hW => ab_pre C0 S U hU hW⟩ rfl (by simp) hl.1 ?_ (lv_room (by rw [ab_sum]; exact hr)) hd ⟨h1, h2⟩)
  show st.map (ab_v q) = _
  rw [hst]
  simp [ab_v]
theorem aw_callS {index : Nat} (hd : decode (kB K) pc = .ok (.invokestatic index, 3)) (hcl : (kY K').cls = (kY K).cls)
    (hx : ab_site Y K' (wsS (kY K).cls index (kY K') [ab_cw K']) As.length) (hst : st = As.reverse ++ rest) (hlen : (lg_sl As).length ≤ kL K') (hr : (rest.map fun v => v.category).sum ≤ 8) (h1 : n1 + kC K' ≤ kC K) (h2 : n2 + kS K' ≤ kS K) (hd1 : d' + 1 ≤ d) (hw1 : 19 + kL K' + w' ≤ w)
    (h : AW Y l ab_Zt K' d' w' 0 (lv_args 0 As) [] M 0 0 (ab_ret (fun v M' => AW Y l Z K d w (pc + 3) lv (v.toList ++ rest) M' (n1 + kC K') (n2 + kS K') Q))) : AW Y l Z K d w pc lv st M n1 n2 Q := by
  intro p e s m args below meth c D q H locs ls C0 hZ S hl
  obtain ⟨x1, x2, x3, x4⟩ := hx
  have hok := C0.2.2.2.2.2.2.2.2.2.2.1
  refine ab_back (K' := K') (rest := rest) C0 hZ S hl (va_runS (As := As.map (ab_v q)) ⟨C0.1, C0.2.1, C0.2.2.1, C0.2.2.2.2.2.1, C0.2.2.2.2.2.2.1⟩ (ab_met x3 x4 hlen h D q H.size)
    (cwS As.length C0.2.2.2.2.2.2.1 (ab_wsG hok x1) (ws' := yW Y) (ab_cw0 x4) rfl rfl ⟨hcl, x2⟩ ⟨hd1, by show 8 + (kL K' + 11) + w' ≤ w; omega⟩)
    ⟨ab_blind, fun U hU hW => ab_pre C0 S U hU hW⟩ rfl (by simp) hl.1 ?_ (lv_room (by rw [ab_sum]; exact hr)) hd ⟨h1, h2⟩)
  show st.map (ab_v q) = _
  rw [hst]
  simp
theorem aw_callSN {index : Nat} {host : String} (hd : decode (kB K) pc = .ok (.invokestatic index, 3)) (hnest : ((kY K).cls, index, kY K', host) ∈ yN Y)
    (hx : ab_site Y K' ([.static (kY K'), .initialized (kY K').cls] ++ [ab_cw K']) As.length) (hst : st = As.reverse ++ rest) (hlen : (lg_sl As).length ≤ kL K') (hr : (rest.map fun v => v.category).sum ≤ 8) (h1 : n1 + kC K' ≤ kC K) (h2 : n2 + kS K' ≤ kS K) (hd1 : d' + 1 ≤ d) (hw1 : 19 + kL K' + w' ≤ w)
    (h : AW Y l ab_Zt K' d' w' 0 (lv_args 0 As) [] M 0 0 (ab_ret (fun v M' => AW Y l Z K d w (pc + 3) lv (v.toList ++ rest) M' (n1 + kC K') (n2 + kS K') Q))) : AW Y l Z K d w pc lv st M n1 n2 Q := by
  intro p e s m args below meth c D q H locs ls C0 hZ S hl
  obtain ⟨x1, x2, x3, x4⟩ := hx
  have hok := C0.2.2.2.2.2.2.2.2.2.2.1
  have hts := C0.2.2.2.2.2.2.1
  refine ab_back (K' := K') (rest := rest) C0 hZ S hl (va_runSN (As := As.map (ab_v q)) ⟨C0.1, C0.2.1, C0.2.2.1, C0.2.2.2.2.2.1, hts⟩ (ab_met x3 x4 hlen h D q H.size)
    ⟨va_cnB As.length hts (ab_wsG (w0 := []) hok (fun w hw => x1 w (List.mem_append_right _ hw))) (ws' := yW Y) (ab_cw0 x4) rfl rfl (C0.2.2.2.2.2.2.2.2.1 _ hnest) (hts _ (x1 _ (by simp))) x2 ⟨hd1, by show 8 + (kL K' + 11) + w' ≤ w; omega⟩, hts _ (x1 _ (by simp)), trivial⟩
    ⟨ab_blind, fun U hU hW => ab_pre C0 S U hU hW⟩ rfl (by simp) hl.1 ?_ (lv_room (by rw [ab_sum]; exact hr)) hd ⟨h1, h2⟩)
  show st.map (ab_v q) = _
  rw [hst]
  simp
theorem aw_callVN {b ci N index : Nat} {C host : String} {T : u_T} (hd : decode (kB K) pc = .ok (.invokevirtual index, 3)) (hL : (yL Y)[b]? = some (0, ci, N)) (hC : (yC Y)[ci]? = some (C, T, N)) (hnest : ((kY K).cls, index, kY K', host) ∈ yN Y)
    (hx : ab_site Y K' ([.instanceMethod (kY K'), .selects C (kY K') (kY K'), .initialized (kY K').cls] ++ [ab_cw K']) As.length) (hst : st = As.reverse ++ .ref b :: rest) (hlen : (lg_sl (.ref b :: As)).length ≤ kL K') (hr : (rest.map fun v => v.category).sum ≤ 8) (h1 : n1 + kC K' ≤ kC K) (h2 : n2 + kS K' ≤ kS K) (hd1 : d' + 1 ≤ d) (hw1 : 19 + kL K' + w' ≤ w)
    (h : AW Y l ab_Zt K' d' w' 0 (lv_args 0 (.ref b :: As)) [] M 0 0 (ab_ret (fun v M' => AW Y l Z K d w (pc + 3) lv (v.toList ++ rest) M' (n1 + kC K') (n2 + kS K') Q))) : AW Y l Z K d w pc lv st M n1 n2 Q := by
  intro p e s m args below meth c D q H locs ls C0 hZ S hl
  obtain ⟨x1, x2, x3, x4⟩ := hx
  have hok := C0.2.2.2.2.2.2.2.2.2.2.1
  have hts := C0.2.2.2.2.2.2.1
  refine ab_back (K' := K') (rest := rest) C0 hZ S hl (va_runVN (C := C) (As := As.map (ab_v q)) (b := q b) ⟨C0.1, C0.2.1, C0.2.2.1, C0.2.2.2.2.2.1, hts⟩ (ab_met x3 x4 hlen h D q H.size)
    ⟨va_cnB As.length hts (ab_wsG (w0 := []) hok (fun w hw => x1 w (List.mem_append_right _ hw))) (ws' := yW Y) (ab_cw0 x4) rfl rfl (C0.2.2.2.2.2.2.2.2.1 _ hnest) (hts _ (x1 _ (by simp))) x2 ⟨hd1, by show 8 + (kL K' + 11) + w' ≤ w; omega⟩, hts _ (x1 _ (by simp)), hts _ (x1 _ (by simp))⟩
    ⟨ab_blind, va_recv C0.2.2.2.2.2.2.2.2.2.1 S.1 hC (ab_at0 hL), fun U hU hW => ab_pre C0 S U hU hW⟩ rfl (by simp) hl.1 ?_ (lv_room (by rw [ab_sum]; exact hr)) hd ⟨h1, h2⟩)
  show st.map (ab_v q) = _
  rw [hst]
  simp [ab_v]
end AC
