/-! making the world: rows for constructors -/
def bcx (K : ab_K) (D : ab_D) (p : Program) (s : State) (m : MethodId) (args : Array Value) (c : Code) : Prop := p.tables.exec = Jvm.exec ∧ c.code = kB K ∧ s.vm.findClass (kY K).cls = some m.cls ∧ (∀ w ∈ sysW, w.before args s = true) ∧ va_K D.1 sysC (ab_T D) s
def bcw (D : ab_D) (A : Nat → Prop) (H0 : Heap) (ws : va_W) (H : Heap) (locs : List Loc) : Prop := va_P D.1 sysC ws H ∧ va_D A ws ∧ va_S A H0 H locs ∧ ∀ q : Nat, H0.size ≤ q → A q
theorem aI_w : Cond.arrayClass .int ∈ sysW := by decide +kernel
theorem aD_w : Cond.arrayClass .double ∈ sysW := by decide +kernel
theorem aJ_w : Cond.arrayClass .long ∈ sysW := by decide +kernel
abbrev eI (D : ab_D) (n : Nat) : va_E := .inl (D.2.1, n, .inl (fun _ => 0))
abbrev eD (D : ab_D) (n : Nat) : va_E := .inl (D.2.2.1, n, .inr (.inr (.inr (.inl (fun _ => 0)))))
abbrev eA (D : ab_D) (n : Nat) (f : Nat → Nat) : va_E := .inl (D.2.2.2.1, n, .inr (.inr (.inr (.inr (fun i => some (f i))))))
abbrev eJ (D : ab_D) (n : Nat) : va_E := .inl (D.2.2.2.2, n, .inr (.inl (fun _ => 0)))
theorem arrV_eq {cI : ClassId} {N : Nat} {f g : Nat → Value} (h : ∀ i, i < N → f i = g i) : arrV cI N f = arrV cI N g := by
  have : (Array.ofFn (n := N) fun j => f j.val) = Array.ofFn (n := N) fun j => g j.val := by
    congr 1
    funext j
    exact h j.val j.isLt
  simp only [arrV, this]
section MK
variable {p : Program} {l : Launch} {e : Env} {R : Room} {s : State} {m : MethodId} {args : Array Value} {below : List Frame} {meth : Method} {c : Code} {H : Heap} {locs : List Loc} {cells slots : Nat} {Q : State → Prop} {K : ab_K} {D : ab_D} {A : Nat → Prop} {H0 : Heap} {ws : va_W} {pc : Nat} {ls : Array Slot} {rest : List Value}
theorem bc_newI (C : bcx K D p s m args c) (hw : bcw D A H0 ws H locs) {n : Int32} {N : Nat} (hn : ¬ n < 0) (hN : n.toNatClampNeg = N) (hb : N * 4 ≤ 536870912) (hcells : cells + 1 ≤ R.cells) (hslots : slots + N ≤ R.slots) (hdg : decode (kB K) pc = .ok (.newarray .int, 2))
    (kk : ∀ (q : Nat) (H1 : Heap), bcw D A H0 (ws ++ [(q, eI D N)]) H1 locs → W p l e R s m args below meth c H1 locs (cells + 1) (slots + N) Q (F0 m (pc + 2) ls (.ref q :: rest))) : W p l e R s m args below meth c H locs cells slots Q (F0 m pc ls (.int n :: rest)) := by
  refine va_newa (atype := .int) C.1 C.2.1 (C.2.2.2.1 _ aI_w) rfl C.2.2.2.2 hw.1 hw.2.1 hw.2.2.1 hw.2.2.2 (a0 := (N, .inl (fun _ => 0))) (fun cA => rfl) hn hN hb hcells hslots hdg (fun q cA H1 hK hP hD hS => ?_)
  have e1 : s.vm.findClass ("[" ++ FieldType.int.toString) = some cA := (hK.2 4 (cA, .int) rfl).2
  have e2 : s.vm.findClass ("[" ++ FieldType.int.toString) = some D.2.1 := (hK.2 0 (D.2.1, .int) rfl).2
  have e3 : cA = D.2.1 := Option.some.inj (e1.symm.trans e2)
  subst e3
  exact kk q H1 ⟨hP, hD, hS, hw.2.2.2⟩
theorem bc_newD (C : bcx K D p s m args c) (hw : bcw D A H0 ws H locs) {n : Int32} {N : Nat} (hn : ¬ n < 0) (hN : n.toNatClampNeg = N) (hb : N * 8 ≤ 536870912) (hcells : cells + 1 ≤ R.cells) (hslots : slots + N ≤ R.slots) (hdg : decode (kB K) pc = .ok (.newarray .double, 2))
    (kk : ∀ (q : Nat) (H1 : Heap), bcw D A H0 (ws ++ [(q, eD D N)]) H1 locs → W p l e R s m args below meth c H1 locs (cells + 1) (slots + N) Q (F0 m (pc + 2) ls (.ref q :: rest))) : W p l e R s m args below meth c H locs cells slots Q (F0 m pc ls (.int n :: rest)) := by
  refine va_newa (atype := .double) C.1 C.2.1 (C.2.2.2.1 _ aD_w) rfl C.2.2.2.2 hw.1 hw.2.1 hw.2.2.1 hw.2.2.2 (a0 := (N, .inr (.inr (.inr (.inl (fun _ => 0)))))) (fun cA => rfl) hn hN hb hcells hslots hdg (fun q cA H1 hK hP hD hS => ?_)
  have e1 : s.vm.findClass ("[" ++ FieldType.double.toString) = some cA := (hK.2 4 (cA, .double) rfl).2
  have e2 : s.vm.findClass ("[" ++ FieldType.double.toString) = some D.2.2.1 := (hK.2 1 (D.2.2.1, .double) rfl).2
  have e3 : cA = D.2.2.1 := Option.some.inj (e1.symm.trans e2)
  subst e3
  exact kk q H1 ⟨hP, hD, hS, hw.2.2.2⟩
theorem bc_newJ (C : bcx K D p s m args c) (hw : bcw D A H0 ws H locs) {n : Int32} {N : Nat} (hn : ¬ n < 0) (hN : n.toNatClampNeg = N) (hb : N * 8 ≤ 536870912) (hcells : cells + 1 ≤ R.cells) (hslots : slots + N ≤ R.slots) (hdg : decode (kB K) pc = .ok (.newarray .long, 2))
    (kk : ∀ (q : Nat) (H1 : Heap), bcw D A H0 (ws ++ [(q, eJ D N)]) H1 locs → W p l e R s m args below meth c H1 locs (cells + 1) (slots + N) Q (F0 m (pc + 2) ls (.ref q :: rest))) : W p l e R s m args below meth c H locs cells slots Q (F0 m pc ls (.int n :: rest)) := by
  refine va_newa (atype := .long) C.1 C.2.1 (C.2.2.2.1 _ aJ_w) rfl C.2.2.2.2 hw.1 hw.2.1 hw.2.2.1 hw.2.2.2 (a0 := (N, .inr (.inl (fun _ => 0)))) (fun cA => rfl) hn hN hb hcells hslots hdg (fun q cA H1 hK hP hD hS => ?_)
  have e1 : s.vm.findClass ("[" ++ FieldType.long.toString) = some cA := (hK.2 4 (cA, .long) rfl).2
  have e2 : s.vm.findClass ("[" ++ FieldType.long.toString) = some D.2.2.2.2 := (hK.2 3 (D.2.2.2.2, .long) rfl).2
  have e3 : cA = D.2.2.2.2 := Option.some.inj (e1.symm.trans e2)
  subst e3
  exact kk q H1 ⟨hP, hD, hS, hw.2.2.2⟩
theorem bc_mna (C : bcx K D p s m args c) (hw : bcw D A H0 ws H locs) (ho : va_AOA .int s) {index : Nat} (hk : Cond.classLink (kY K).cls index "[[I" ∈ sysW) {n k : Int32} {N M' : Nat} (hn : ¬ n < 0) (hk0 : ¬ k < 0) (hN : n.toNatClampNeg = N) (hM : k.toNatClampNeg = M') (hb1 : N * 4 ≤ 536870912) (hb2 : M' * 4 ≤ 536870912) (hcells : cells + (1 + N) ≤ R.cells) (hslots : slots + (N + N * M') ≤ R.slots) (hdg : decode (kB K) pc = .ok (.multianewarray index 2, 4))
    (kk : ∀ (q : Nat) (r : Nat → Nat) (H1 : Heap), bcw D A H0 ((ws ++ [(q, eA D N r)]) ++ (List.range N).map (fun i => (r i, eI D M'))) H1 locs → W p l e R s m args below meth c H1 locs (cells + 1 + N) (slots + N + N * M') Q (F0 m (pc + 4) ls (.ref q :: rest))) : W p l e R s m args below meth c H locs cells slots Q (F0 m pc ls (.int k :: .int n :: rest)) := by
  have e2 : s.vm.findClass ("[" ++ FieldType.int.toString) = some D.2.1 := (C.2.2.2.2.2 0 (D.2.1, .int) rfl).2
  refine va_mna (X := ws) (L := []) (f := fun _ => .inr (0, [])) (cy := D.2.1) (ty := .int) (z := (M', .inl (fun _ => 0))) C.1 C.2.1 C.2.2.1 (C.2.2.2.1 _ hk) ho (C.2.2.2.1 _ aI_w) e2 C.2.2.2.2 (by show va_P _ _ (ws ++ []) _; rw [List.append_nil]; exact hw.1) (by show va_D _ (ws ++ []); rw [List.append_nil]; exact hw.2.1) hw.2.2.1 hw.2.2.2 hn hk0 hN hM hb1 hb2 (by omega) rfl rfl hcells hslots (fun cA => ?_) hdg (fun q r cA H1 hinj hnl hK hP hD hS => ?_)
  · show ({ cls := cA, slots := Array.replicate M' (.int 0), vm := .none } : Cell) = arrV cA M' (fun _ => .int 0)
    simp only [arrV]
    congr 1
    apply Array.ext
    · simp
    · intro i h1 h2; simp
  · have e1 : s.vm.findClass ("[" ++ (FieldType.array .int).toString) = some cA := (hK.2 4 (cA, .array .int) rfl).2
    have e4 : s.vm.findClass ("[" ++ (FieldType.array .int).toString) = some D.2.2.2.1 := (hK.2 2 (D.2.2.2.1, .array .int) rfl).2
    have e3 : cA = D.2.2.2.1 := Option.some.inj (e1.symm.trans e4)
    subst e3
    rw [← vr_rows (L := []) (fun a _ => List.not_mem_nil)] at hP hD
    have eR : va_pl [] (fun _ => (.inr (0, []) : va_E)) ++ ((List.range N).map r).map (fun a => (a, (.inl (D.2.1, M', .inl (fun _ => 0)) : va_E))) = (List.range N).map (fun i => (r i, eI D M')) := by
      show [] ++ _ = _
      rw [List.nil_append, List.map_map]; rfl
    rw [eR] at hP hD
    have hat : ((ws ++ [(q, (.inl (D.2.2.2.1, N, .inr (.inr (.inr (.inr (fun i => if i < N then some (r i) else none))))) : va_E))]) ++ (List.range N).map (fun i => (r i, eI D M')))[ws.length]? = some (q, .inl (D.2.2.2.1, N, .inr (.inr (.inr (.inr (fun i => if i < N then some (r i) else none)))))) := by
      rw [List.getElem?_append_left (by simp), List.getElem?_append_right (Nat.le_refl _), Nat.sub_self]; rfl
    have h0 := hP _ _ hat
    have h1 : va_at D.1 sysC (q, eA D N r) H1 := by
      show H1[q]? = some (arrV D.2.2.2.1 N (fun j => va_rf (some (r j))))
      have h2 : H1[q]? = some (arrV D.2.2.2.1 N (fun j => va_rf (if j < N then some (r j) else none))) := h0
      rw [h2]
      exact congrArg some (arrV_eq (fun i hi => by rw [if_pos hi]))
    have hP2 := va_P.set hP hD hat h1 (fun _ _ => rfl)
    have hD2 := va_D.set (e := eA D N r) hD hat
    have eS : ((ws ++ [(q, (.inl (D.2.2.2.1, N, .inr (.inr (.inr (.inr (fun i => if i < N then some (r i) else none))))) : va_E))]) ++ (List.range N).map (fun i => (r i, eI D M'))).set ws.length (q, eA D N r) = (ws ++ [(q, eA D N r)]) ++ (List.range N).map (fun i => (r i, eI D M')) := by
      rw [List.set_append_left _ _ (by simp), List.set_append_right _ _ (Nat.le_refl _), Nat.sub_self]; rfl
    rw [eS] at hP2 hD2
    exact kk q r H1 ⟨hP2, hD2, hS, hw.2.2.2⟩
theorem bc_put (C : bcx K D p s m args c) (hin2 : meth.name = "<init>") (hw : bcw D A H0 ws H locs) (q0 : Nat) {a ci k N index : Nat} {fs : List Value} {T : u_T} {ty : FieldType} {v : Value} (he : ws[q0]? = some (a, .inr (ci, fs))) (hc : sysC[ci]? = some ((kY K).cls, T, N)) (hk : k < N) (hlink : Cond.fieldLink (kY K).cls index (kY K).cls (T k).2.1 (T k).2.2.1 ∈ sysW) (hT : (T k).1 = (kY K).cls) (hd : parseFieldDescriptor (T k).2.2.1 = some ty) (hn : narrow ty v = v) (hfit : fits ty v = true) (hl : k < fs.length) (hdg : decode (kB K) pc = .ok (.putfield index, 3))
    (kk : ∀ (H1 : Heap) (locs1 : List Loc), bcw D A H0 (ws.set q0 (a, .inr (ci, fs.set k v))) H1 locs1 → W p l e R s m args below meth c H1 locs1 cells slots Q (F0 m (pc + 3) ls rest)) : W p l e R s m args below meth c H locs cells slots Q (F0 m pc ls (v :: .ref a :: rest)) := by
  have hok := sys_ok.1 ci _ hc
  cases hfin : (T k).2.2.2 with
  | true => exact va_putF C.1 C.2.1 C.2.2.2.1 hok.1 (sysF ci) hok.2.1 hok.2.2 C.2.2.1 C.2.2.2.2 hw.1 hw.2.1 hw.2.2.1 q0 he hc k hk (C.2.2.2.1 _ hlink) (by rw [hT]; exact fun _ h => h) hfin hin2 hT hd hn hfit hl hdg (fun H1 locs1 hP hD hS => kk H1 locs1 ⟨hP, hD, hS, hw.2.2.2⟩)
  | false => exact va_put C.1 C.2.1 C.2.2.2.1 hok.1 (sysF ci) hok.2.1 hok.2.2 C.2.2.1 C.2.2.2.2 hw.1 hw.2.1 hw.2.2.1 q0 he hc k hk (C.2.2.2.1 _ hlink) (by rw [hT]; exact fun _ h => h) hfin hd hn hfit hl hdg (fun H1 locs1 hP hD hS => kk H1 locs1 ⟨hP, hD, hS, hw.2.2.2⟩)
theorem bc_new (C : bcx K D p s m args c) (hw : bcw D A H0 ws H locs) {ci N index : Nat} {Cn : String} {T : u_T} {fs : List Value} (hc : sysC[ci]? = some (Cn, T, N)) (hcl : Cond.classLink (kY K).cls index Cn ∈ sysW) (hinst : Cond.instantiable Cn N ∈ sysW) (hini : Cond.initialized Cn ∈ sysW) (hfs : ∀ j, j < N → defaultValue (sysF ci j) = vp_V fs j) (hcells : cells + 1 ≤ R.cells) (hslots : slots + N ≤ R.slots) (hdg : decode (kB K) pc = .ok (.new index, 3))
    (kk : ∀ (q : Nat) (H1 : Heap), bcw D A H0 (ws ++ [(q, .inr (ci, fs))]) H1 locs → W p l e R s m args below meth c H1 locs (cells + 1) (slots + N) Q (F0 m (pc + 3) ls (.ref q :: rest))) : W p l e R s m args below meth c H locs cells slots Q (F0 m pc ls rest) := by
  have hok := sys_ok.1 ci _ hc
  exact va_new C.1 C.2.1 C.2.2.2.1 hok.1 (sysF ci) hok.2.1 C.2.2.1 (C.2.2.2.1 _ hcl) (C.2.2.2.1 _ hinst) (C.2.2.2.1 _ hini) C.2.2.2.2 hw.1 hw.2.1 hw.2.2.1 hw.2.2.2 hc hfs hcells hslots hdg (fun q H1 hP hD hS => kk q H1 ⟨hP, hD, hS, hw.2.2.2⟩)
theorem bc_get (C : bcx K D p s m args c) (hw : bcw D A H0 ws H locs) (q0 : Nat) {a ci k N index : Nat} {fs : List Value} {T : u_T} {v : Value} (he : ws[q0]? = some (a, .inr (ci, fs))) (hc : sysC[ci]? = some ((kY K).cls, T, N)) (hk : k < N) (hlink : Cond.fieldLink (kY K).cls index (kY K).cls (T k).2.1 (T k).2.2.1 ∈ sysW) (hT : (T k).1 = (kY K).cls) (hv : fs[k]? = some v) (hdg : decode (kB K) pc = .ok (.getfield index, 3))
    (kk : W p l e R s m args below meth c H locs cells slots Q (F0 m (pc + 3) ls (v :: rest))) : W p l e R s m args below meth c H locs cells slots Q (F0 m pc ls (.ref a :: rest)) := by
  have hok := sys_ok.1 ci _ hc
  exact va_get C.1 C.2.1 C.2.2.2.1 hok.1 C.2.2.1 C.2.2.2.2 hw.1 q0 he hc k hk (C.2.2.2.1 _ hlink) (by rw [hT]; exact fun _ h => h) hv hdg kk
end MK
