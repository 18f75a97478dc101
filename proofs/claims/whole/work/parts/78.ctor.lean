/-! constructors: one form of contract for all of them -/
theorem va_AOA.moved {ty : FieldType} {u U : State} (hvm : u.vm.Alike U.vm) (h : va_AOA ty u) : va_AOA ty U := by
  have e := Cond.arrayOver_setVmC (args := #[]) (s := u) (vm' := U.vm) hvm (.array ty)
  have h2 : (Cond.arrayOver (.array ty)).before #[] (u.setVm U.vm) = true := by rw [e]; exact h
  exact h2
def bcNs : List (String × Nat × MethodName × String) := [("BeliefForge", 9, kY k_TX_init, "BeliefForge"), ("BeliefForge", 18, kY k_QU_init, "BeliefForge"), ("BeliefForge", 34, kY k_RA_init, "BeliefForge")]
def bcN (U : State) : Prop := va_AOA .int U ∧ ∀ r ∈ bcNs, va_Nw (.methodLinkNest r.1 r.2.1 r.2.2.1 r.2.2.2) U
theorem bcN.warm {s U : State} (hW : s.WarmedH U.vm) (h : bcN s) : bcN U := ⟨va_AOA.moved hW.alike h.1, fun r hr => va_Nw.warmM hW (h.2 r hr)⟩
theorem bcN.call {U : State} {g : JFrame} {mk : MethodId} {a : Array Value} (h : bcN U) : bcN (U.calling g mk a) := ⟨va_AOA.moved (u := U) (U := U.calling g mk a) (Vm.Alike.refl U.vm) h.1, fun r hr => va_Nw.same rfl rfl (h.2 r hr)⟩
def bcP (D : ab_D) (As : List Value) (h0 ci : Nat) (fs : List Value) (sz : Nat) : Array Value → State → Prop := va_Pc (.ref h0 :: As) (fun U => U.heap.size = sz ∧ va_P D.1 sysC [(h0, .inr (ci, fs))] U.heap ∧ va_K D.1 sysC (ab_T D) U ∧ bcN U)
def bcA (h0 ci : Nat) (fs : List Value) (sz : Nat) : Nat → Prop := va_A [(h0, .inr (ci, fs))] sz
def bcQ {S : Type} (D : ab_D) (A : Nat → Prop) (G : S → va_W) : Array Value → State → Outcome → State → Prop := va_Qv (fun _ : S => True) (fun u t => va_P D.1 sysC (G u) t.heap ∧ va_D A (G u)) A
def bcR (d w mc ms : Nat) : Room := { frames := d, cells := mc, slots := ms, locals := w }
def bcM (l : Launch) (K : ab_K) (d w : Nat) (D : ab_D) (As : List Value) (h0 ci : Nat) (fs : List Value) {S : Type} (G : S → va_W) (mc ms sz : Nat) : Prop := Met l (kY K) (Cond.code (kY K) (kB K) (kL K) none :: sysW) (bcR d w mc ms) (bcP D As h0 ci fs sz) (bcQ D (bcA h0 ci fs sz) G) mc ms (bcA h0 ci fs sz)
theorem va_D_one {A : Nat → Prop} {q : Nat} {e : va_E} (h : A q) : va_D A [(q, e)] := by
  refine ⟨fun i j x y hi hj _ => ?_, fun k x hk => ?_⟩
  · have a := (List.getElem?_eq_some_iff.mp hi).1
    have b := (List.getElem?_eq_some_iff.mp hj).1
    simp at a b
    omega
  · have a := (List.getElem?_eq_some_iff.mp hk).1
    have : k = 0 := by simp at a; omega
    subst this
    have e1 : (q, e) = x := Option.some.inj hk
    rw [← e1]; exact h
theorem bcA_in {h0 ci : Nat} {fs : List Value} {sz : Nat} : bcA h0 ci fs sz h0 := Or.inl ⟨0, _, rfl⟩
/-- a constructor's body -/
def bcBody (l : Launch) (K : ab_K) (d w : Nat) (D : ab_D) (As : List Value) (h0 ci : Nat) (fs : List Value) {S : Type} (G : S → va_W) (mc ms : Nat) : Prop :=
  ∀ (p : Program) (e : Env) (s : State) (m : MethodId) (args : Array Value) (below : List Frame) (meth : Method) (c : Code) (A : Nat → Prop) (ls : Array Slot), bcx K D p s m args c → bcN s → meth.name = "<init>" → c.maxLocals = kL K → meth.sig.returnType = none → meth.locks = false → lv_has ls (kL K) (lv_args 0 (.ref h0 :: As)) → bcw D A s.heap [(h0, .inr (ci, fs))] s.heap [] →
    W p l e (bcR d w mc ms) s m args below meth c s.heap [] 0 0 (MQ below (bcQ D A G) args s mc ms A) (F0 m 0 ls [])
theorem bc_met {l : Launch} {K : ab_K} {d w : Nat} {D : ab_D} {As : List Value} {h0 ci : Nat} {fs : List Value} {S : Type} {G : S → va_W} {mc ms : Nat} (hy : plainName (kY K).cls = true) (hlen : (lg_sl (.ref h0 :: As)).length ≤ kL K) (hnm : (kY K).name = "<init>") (body : bcBody l K d w D As h0 ci fs G mc ms) (sz : Nat) : bcM l K d w D As h0 ci fs G mc ms sz := by
  refine Met.ofW (cc := kB K) (maxL := kL K) (ret := none) (ws' := sysW) hy rfl ?_
  intro p e s m args below meth c s₁ B hml hv
  obtain ⟨rfl, hsz, hP, hK, hN⟩ := hv
  subst hsz
  have hts := atoms_spec (ws := Cond.code (kY K) (kB K) (kL K) none :: sysW) B.pre
  have hl := lv_entry (.ref h0 :: As) (n := kL K) hlen
  rw [lg_entry_eq]
  exact body p e s m _ below meth c (bcA h0 ci fs s.heap.size) _ ⟨B.exec, B.bytes, findClass_of_methodNamed B.named, fun w hw => hts w (List.mem_cons_of_mem _ hw), hK⟩ hN ((name_of_methodNamed B.named B.method).1.trans hnm) hml B.returns B.notSynchronized hl ⟨hP, va_D_one bcA_in, va_S.rf, fun q h => Or.inr h⟩
section CT
variable {p : Program} {l : Launch} {e : Env} {R : Room} {s : State} {m : MethodId} {args : Array Value} {below : List Frame} {meth : Method} {c : Code} {H : Heap} {locs : List Loc} {cells slots : Nat} {Q : State → Prop} {K K' : ab_K} {D : ab_D} {A : Nat → Prop} {H0 : Heap} {ws : va_W} {pc : Nat} {ls : Array Slot} {rest : List Value} {S : Type} {G : S → va_W} {mc ms d w : Nat}
theorem bc_ret (C : bcx K D p s m args c) (hr : meth.sig.returnType = none) (hlk : meth.locks = false) (u : S) (hw : bcw D A s.heap (G u) H locs) (h1 : cells ≤ mc) (h2 : slots ≤ ms) (hdg : decode (kB K) pc = .ok (.return_, 1)) : W p l e R s m args below meth c H locs cells slots (MQ below (bcQ D A G) args s mc ms A) (F0 m pc ls []) :=
  W.widen h1 h2 (W.vret C.1 C.2.1 hr (fun t ht hW => ⟨⟨u, rfl, trivial, by rw [ht]; exact hw.1, hw.2.1⟩, hw.2.2.1.F ht⟩) (fun q hq => hw.2.2.1.2.2 q hq) hdg hlk)
theorem bc_obj (C : bcx K D p s m args c) (hml : c.maxLocals = kL K) (hsize : ls.size = kL K) {idx : Nat} {a : Addr} (hlink : Cond.methodLink (kY K).cls idx Lib.objectInit ∈ sysW) (hinst : Cond.instanceMethod Lib.objectInit ∈ sysW) (hcode : Cond.code Lib.objectInit ⟨#[0xb1]⟩ 1 none ∈ sysW) (hfr : 1 ≤ R.frames) (hlo : 12 ≤ R.locals) (hdg : decode (kB K) pc = .ok (.invokespecial idx, 3))
    (kk : W p l e R s m args below meth c H locs cells slots Q (F0 m (pc + 3) ls [])) : W p l e R s m args below meth c H locs cells slots Q (F0 m pc ls [.ref a]) := by
  refine W.objInit C.1 C.2.1 C.2.2.1 (C.2.2.2.1 _ hlink) (C.2.2.2.1 _ hinst) (C.2.2.2.1 _ hcode) rfl (hsize.trans hml.symm) rfl hdg hfr ?_ kk
  show 2 * 0 + 0 + 12 ≤ R.locals
  omega
theorem bc_join {X w1 : va_W} {q : Nat} {E : va_E} {H1 : Heap} (hP : va_P D.1 sysC (X ++ [(q, E)]) H) (hD : va_D A (X ++ [(q, E)])) (hk : ∀ a : Nat, a < H.size → ¬ va_A [(q, E)] H.size a → H1[a]? = H[a]?) (hF : ∀ a, va_A [(q, E)] H.size a → A a) (hP1 : va_P D.1 sysC w1 H1) (hD1 : va_D (va_A [(q, E)] H.size) w1) : va_P D.1 sysC (X ++ w1) H1 ∧ va_D A (X ++ w1) := by
  have at' : ∀ (k : Nat) (x : Nat × va_E), X[k]? = some x → (X ++ [(q, E)])[k]? = some x ∧ k < X.length := by
    intro k x hx
    have h := (List.getElem?_eq_some_iff.mp hx).1
    exact ⟨by rw [List.getElem?_append_left h]; exact hx, h⟩
  have lst : (X ++ [(q, E)])[X.length]? = some (q, E) := by rw [List.getElem?_append_right (Nat.le_refl _), Nat.sub_self]; rfl
  have apart : ∀ (k : Nat) (x : Nat × va_E), X[k]? = some x → x.1 < H.size ∧ ¬ va_A [(q, E)] H.size x.1 := by
    intro k x hx
    obtain ⟨h1, h2⟩ := at' k x hx
    have hl := (hP k x h1).lt
    refine ⟨hl, fun h => ?_⟩
    rcases h with ⟨k2, e2, h⟩ | h
    · have a := (List.getElem?_eq_some_iff.mp h).1
      have : k2 = 0 := by simp at a; omega
      subst this
      have e1 : (q, E) = (x.1, e2) := Option.some.inj h
      have e3 : x.1 = q := by rw [Prod.mk.injEq] at e1; exact e1.1.symm
      have := hD.1 k X.length x (q, E) h1 lst e3
      omega
    · omega
  refine ⟨va_P.app (fun k x hx => ?_) hP1, va_D.app ⟨fun i j x y hx hy hxy => hD.1 i j x y (at' i x hx).1 (at' j y hy).1 hxy, fun k x hx => hD.2 k x (at' k x hx).1⟩ (hD1.weaken (fun k x _ h => hF x.1 h)) (fun i j x y hx hy hxy => ?_)⟩
  · obtain ⟨g1, g2⟩ := apart k x hx
    exact (hP k x (at' k x hx).1).kept (hk x.1 g1 g2)
  · exact (apart i x hx).2 (by rw [hxy]; exact hD1.2 j y hy)
theorem bc_back {X : va_W} {q ci : Nat} {fs : List Value} {st0 : List Value} {a : Array Value} (hw : bcw D A H0 (X ++ [(q, .inr (ci, fs))]) H locs) (hr : va_Run p l e R s m args below meth c H locs cells slots mc ms (F0 m pc ls st0) rest (bcQ D (bcA q ci fs H.size) G a) (bcA q ci fs H.size))
    (kk : ∀ (u : S) (H1 : Heap) (locs1 : List Loc), bcw D A H0 (X ++ G u) H1 locs1 → W p l e R s m args below meth c H1 locs1 (cells + mc) (slots + ms) Q (F0 m (pc + 3) ls rest)) : W p l e R s m args below meth c H locs cells slots Q (F0 m pc ls st0) := by
  have lst : (X ++ [(q, (.inr (ci, fs) : va_E))])[X.length]? = some (q, .inr (ci, fs)) := by rw [List.getElem?_append_right (Nat.le_refl _), Nat.sub_self]; rfl
  have hF : ∀ x, bcA q ci fs H.size x → A x := by
    intro x hx
    rcases hx with ⟨k2, e2, h⟩ | h
    · have a := (List.getElem?_eq_some_iff.mp h).1
      have : k2 = 0 := by simp at a; omega
      subst this
      have e1 : (q, (.inr (ci, fs) : va_E)) = (x, e2) := Option.some.inj h
      have e3 : x = q := by rw [Prod.mk.injEq] at e1; exact e1.1.symm
      rw [e3]
      exact hw.2.1.2 _ _ lst
    · exact hw.2.2.2 x (Nat.le_trans hw.2.2.1.1 h)
  refine va_callv hr hw.2.2.1 (fun x _ h => hF x h) hF (fun u t H1 locs1 ht hvm _ hB hz hk hS => ?_)
  obtain ⟨hP1, hD1⟩ := hB
  rw [ht] at hP1
  obtain ⟨h1, h2⟩ := bc_join hw.1 hw.2.1 hk hF hP1 hD1
  exact kk u H1 locs1 ⟨h1, h2, hS, hw.2.2.2⟩
theorem bc_pre {X : va_W} {q ci : Nat} {fs As : List Value} (C : bcx K D p s m args c) (hN : bcN s) (hw : bcw D A H0 (X ++ [(q, .inr (ci, fs))]) H locs) : PreS s H (bcP D As q ci fs H.size) (.ref q :: As) := by
  have lst : (X ++ [(q, (.inr (ci, fs) : va_E))])[X.length]? = some (q, .inr (ci, fs)) := by rw [List.getElem?_append_right (Nat.le_refl _), Nat.sub_self]; rfl
  have hP1 : va_P D.1 sysC [(q, .inr (ci, fs))] H := by
    intro k x hk
    have a := (List.getElem?_eq_some_iff.mp hk).1
    have : k = 0 := by simp at a; omega
    subst this
    have e1 : (q, (.inr (ci, fs) : va_E)) = x := Option.some.inj hk
    rw [← e1]
    exact hw.1 _ _ lst
  exact ⟨fun a U g mk h => ⟨h.1, h.2.1, h.2.2.1, va_K.moved (u := U) (U := U.calling g mk a) (Vm.Alike.refl U.vm) h.2.2.2.1, bcN.call h.2.2.2.2⟩, fun U hU hW => ⟨rfl, by rw [hU], by rw [hU]; exact hP1, va_K.moved hW.alike C.2.2.2.2, bcN.warm hW hN⟩⟩
theorem bc_good (hc : Cond.code (kY K') (kB K') (kL K') none ∈ sysW) : GoodIn sysW (Cond.code (kY K') (kB K') (kL K') none :: sysW) := ab_good sys_ok (fun w hw => by
  rcases List.mem_cons.mp hw with h | h
  · rw [h]; exact hc
  · exact h)
/-- what must be so at a call of a constructor -/
abbrev bcSite (K' : ab_K) (n : Nat) : Prop := Cond.code (kY K') (kB K') (kL K') none ∈ sysW ∧ Cond.initialized (kY K').cls ∈ sysW ∧ Cond.instanceMethod (kY K') ∈ sysW ∧ (kY K').name = "<init>" ∧ ((kY K').cls ≠ "java/lang/invoke/MethodHandle" ∧ (kY K').cls ≠ "java/lang/invoke/VarHandle" ∧ (parseMethodDescriptor (kY K').desc).map (fun d => d.parameters.length) = some n)
theorem bc_callI {X : va_W} {q ci index : Nat} {fs As st0 : List Value} (C : bcx K D p s m args c) (hN : bcN s) (hml : c.maxLocals = kL K) (hsize : ls.size = kL K) (hw : bcw D A H0 (X ++ [(q, .inr (ci, fs))]) H locs) (hM : ∀ sz, bcM l K' d w D As q ci fs G mc ms sz) (hx : bcSite K' As.length) (hlink : Cond.methodLink (kY K).cls index (kY K') ∈ sysW) (hst : st0 = As.reverse ++ .ref q :: rest) (hr : (rest.map fun v => v.category).sum ≤ 8) (hR : d + 1 ≤ R.frames ∧ 8 + (kL K' + 11) + w ≤ R.locals) (h1 : cells + mc ≤ R.cells) (h2 : slots + ms ≤ R.slots) (hdg : decode (kB K) pc = .ok (.invokespecial index, 3))
    (kk : ∀ (u : S) (H1 : Heap) (locs1 : List Loc), bcw D A H0 (X ++ G u) H1 locs1 → W p l e R s m args below meth c H1 locs1 (cells + mc) (slots + ms) Q (F0 m (pc + 3) ls rest)) : W p l e R s m args below meth c H locs cells slots Q (F0 m pc ls st0) := by
  obtain ⟨x1, x2, x3, x4, x5⟩ := hx
  have hts := C.2.2.2.1
  exact bc_back hw (va_runI (As := As) (rest := rest) (Ts := sysW) ⟨C.1, C.2.1, hml, C.2.2.1, hts⟩ (hM H.size) (cwI As.length hts (bc_good x1) rfl rfl rfl (hts _ x2) (hts _ hlink) (hts _ x3) x4 x5 hR) (bc_pre C hN hw) rfl rfl hsize hst (lv_room hr) hdg ⟨h1, h2⟩) kk
theorem bc_callN {X : va_W} {q ci index : Nat} {fs As st0 : List Value} {host : String} (C : bcx K D p s m args c) (hN : bcN s) (hml : c.maxLocals = kL K) (hsize : ls.size = kL K) (hw : bcw D A H0 (X ++ [(q, .inr (ci, fs))]) H locs) (hM : ∀ sz, bcM l K' d w D As q ci fs G mc ms sz) (hx : bcSite K' As.length) (hlink : ((kY K).cls, index, kY K', host) ∈ bcNs) (hst : st0 = As.reverse ++ .ref q :: rest) (hr : (rest.map fun v => v.category).sum ≤ 8) (hR : d + 1 ≤ R.frames ∧ 8 + (kL K' + 11) + w ≤ R.locals) (h1 : cells + mc ≤ R.cells) (h2 : slots + ms ≤ R.slots) (hdg : decode (kB K) pc = .ok (.invokespecial index, 3))
    (kk : ∀ (u : S) (H1 : Heap) (locs1 : List Loc), bcw D A H0 (X ++ G u) H1 locs1 → W p l e R s m args below meth c H1 locs1 (cells + mc) (slots + ms) Q (F0 m (pc + 3) ls rest)) : W p l e R s m args below meth c H locs cells slots Q (F0 m pc ls st0) := by
  obtain ⟨x1, x2, x3, x4, x5⟩ := hx
  have hts := C.2.2.2.1
  exact bc_back hw (va_runIN (As := As) (rest := rest) (Ts := sysW) ⟨C.1, C.2.1, hml, C.2.2.1, hts⟩ (hM H.size) ⟨va_cnB As.length hts (bc_good x1) rfl rfl rfl (hN.2 _ hlink) (hts _ x2) x5 hR, x4, hts _ x3⟩ (bc_pre C hN hw) rfl rfl hsize hst (lv_room hr) hdg ⟨h1, h2⟩) kk
end CT
/-- a smaller room -/
theorem W.smaller {p : Program} {l : Launch} {e : Env} {R R' : Room} {s : State} {m : MethodId} {args : Array Value} {below : List Frame} {meth : Method} {c : Code} {H : Heap} {locs : List Loc} {cells slots : Nat} {Q : State → Prop} {g : JFrame} (hf : R'.frames ≤ R.frames) (hl : R'.locals ≤ R.locals) (hc : R'.cells ≤ R.cells) (hs : R'.slots ≤ R.slots) (k : W p l e R' s m args below meth c H locs cells slots Q g) : W p l e R s m args below meth c H locs cells slots Q g := by
  intro T hT X
  have hroom : s.hasRoom e.platform R' = true := by
    have h := X.room
    simp only [State.hasRoom, Bool.and_eq_true, decide_eq_true_eq] at h ⊢
    obtain ⟨⟨⟨⟨h1, h2, h3, h4, h5, h6⟩, h7⟩, h8⟩, h9⟩ := h
    exact ⟨⟨⟨⟨by omega, by omega, by omega, by omega, by omega, h6⟩, by omega⟩, by omega⟩, h9⟩
  exact k T hT ⟨X.admits, X.cas, X.clock, X.frames, hroom, X.hears, X.method, X.code, X.here, X.tail, X.warmed, X.limits, X.bytes, X.same⟩
