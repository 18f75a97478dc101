/-! A LIGHT JUDGEMENT over a world of fixed shape: cells are numbers 0, 1, ..; their shape is the list yL, their references the table yR; ints, doubles and longs lie in a memory. -/
abbrev ab_Y : Type := List Cond × List (String × Nat × MethodName × String) × List vw_C × (Nat → Nat → FieldType) × List (Nat × Nat × Nat) × (Nat → Nat → Nat) × List MethodName × List (String × String) × List (String × String) × List (String × Nat × String)
abbrev yW (Y : ab_Y) : List Cond := Y.1
abbrev yN (Y : ab_Y) : List (String × Nat × MethodName × String) := Y.2.1
abbrev yC (Y : ab_Y) : List vw_C := Y.2.2.1
abbrev yF (Y : ab_Y) : Nat → Nat → FieldType := Y.2.2.2.1
abbrev yL (Y : ab_Y) : List (Nat × Nat × Nat) := Y.2.2.2.2.1
abbrev yR (Y : ab_Y) : Nat → Nat → Nat := Y.2.2.2.2.2.1
/-- what a throw and a catch need beside: declared constructors, classes that can be cast, that can't, texts -/
abbrev yQ (Y : ab_Y) : List MethodName × List (String × String) × List (String × String) × List (String × Nat × String) := Y.2.2.2.2.2.2
/-- a method: name, bytes, locals, what it returns, its handlers, how many cells and slots it may make -/
abbrev ab_K : Type := MethodName × ByteArray × Nat × Option FieldType × List (Nat × Nat × Nat × Nat) × Nat × Nat
abbrev kY (K : ab_K) : MethodName := K.1
abbrev kB (K : ab_K) : ByteArray := K.2.1
abbrev kL (K : ab_K) : Nat := K.2.2.1
abbrev kT (K : ab_K) : Option FieldType := K.2.2.2.1
abbrev kH (K : ab_K) : List (Nat × Nat × Nat × Nat) := K.2.2.2.2.1
abbrev kC (K : ab_K) : Nat := K.2.2.2.2.2.1
abbrev kS (K : ab_K) : Nat := K.2.2.2.2.2.2
/-- class numbers, slots; the array classes of int, double, int[], long -/
abbrev ab_D : Type := va_G × ClassId × ClassId × ClassId × ClassId
abbrev ab_M : Type := (Nat → Nat → Int32) × (Nat → Nat → UInt64) × (Nat → Nat → Int64)
def ab_u {α : Type} (f : Nat → Nat → α) (a i : Nat) (x : α) : Nat → Nat → α := fun b j => if b = a then (if j = i then x else f b j) else f b j
def ab_sI (M : ab_M) (a i : Nat) (x : Int32) : ab_M := (ab_u M.1 a i x, M.2.1, M.2.2)
def ab_sD (M : ab_M) (a i : Nat) (x : UInt64) : ab_M := (M.1, ab_u M.2.1 a i x, M.2.2)
def ab_sJ (M : ab_M) (a i : Nat) (x : Int64) : ab_M := (M.1, M.2.1, ab_u M.2.2 a i x)
/-- an abstract value (a reference is a cell's number) at its place in the machine -/
def ab_v (q : Nat → Nat) (v : Value) : Value := match v with
  | .ref a => .ref (q a)
  | v => v
def ab_p (q : Nat → Nat) (x : Nat × Value) : Nat × Value := (x.1, ab_v q x.2)
/-- what a field holds -/
def ab_av (Y : ab_Y) (M : ab_M) (ci id k : Nat) : Value := match yF Y ci k with
  | .int => .int (M.1 id k)
  | .boolean => .int (M.1 id k)
  | .double => .double (M.2.1 id k)
  | .long => .long (M.2.2 id k)
  | _ => .ref (yR Y id k)
def ab_E (Y : ab_Y) (D : ab_D) (q : Nat → Nat) (M : ab_M) (id : Nat) : va_E := match (yL Y)[id]? with
  | some (0, ci, N) => .inr (ci, (List.range N).map (fun k => ab_v q (ab_av Y M ci id k)))
  | some (1, n, _) => .inl (D.2.1, n, .inl (M.1 id))
  | some (2, n, _) => .inl (D.2.2.1, n, .inr (.inr (.inr (.inl (M.2.1 id)))))
  | some (3, n, _) => .inl (D.2.2.2.1, n, .inr (.inr (.inr (.inr (fun i => some (q (yR Y id i)))))))
  | some (4, n, _) => .inl (D.2.2.2.2, n, .inr (.inl (M.2.2 id)))
  | _ => .inr (0, [])
def ab_T (D : ab_D) : List (ClassId × FieldType) := [(D.2.1, .int), (D.2.2.1, .double), (D.2.2.2.1, .array .int), (D.2.2.2.2, .long)]
def ab_W (Y : ab_Y) (D : ab_D) (q : Nat → Nat) (M : ab_M) : va_W := (List.range (yL Y).length).map (fun id => (q id, ab_E Y D q M id))
def ab_A (Y : ab_Y) (q : Nat → Nat) (sz : Nat) : Nat → Prop := fun a => (∃ id, id < (yL Y).length ∧ a = q id) ∨ sz ≤ a
def ab_ok (Y : ab_Y) : Prop := (∀ (ci : Nat) (r : vw_C), (yC Y)[ci]? = some r → (∀ w ∈ u_ws r.1 r.2.1 r.2.2, w ∈ yW Y) ∧ (∀ k, k < r.2.2 → parseFieldDescriptor (r.2.1 k).2.2.1 = some (yF Y ci k)) ∧ ∀ a, a < r.2.2 → ∀ b, b < r.2.2 → a ≠ b → (r.2.1 a).2.1 ≠ (r.2.1 b).2.1) ∧ ∀ w ∈ yW Y, (w.onTables && w.keeps) = true ∨ ∃ ty, w = .arrayClass ty
def ab_cw (K : ab_K) : Cond := if (kH K).isEmpty then .code (kY K) (kB K) (kL K) (kT K) else .codeWith (kY K) (kB K) (kL K) (kT K) (kH K)
/-- what stays outside the world's cells: the two constants that a new exception reads -/
def ab_Zs (A : Nat → Prop) (U : State) (H : Heap) : Prop := vx_Zq Bundle.tN "UNASSIGNED_STACK" Bundle.steD A U H ∧ vx_Zq Bundle.tN "SUPPRESSED_SENTINEL" Bundle.listD A U H
def ab_X (Y : ab_Y) (U : State) : Prop := (∀ y ∈ (yQ Y).1, va_Nw (.declares y) U) ∧ (∀ r ∈ (yQ Y).2.1, va_Nw (.castable r.1 r.2) U) ∧ (∀ r ∈ (yQ Y).2.2.1, va_Nc r.1 r.2 U) ∧ ∀ r ∈ (yQ Y).2.2.2, ∃ a, vk_R r.1 r.2.1 r.2.2 a U
/-- what holds of the tables, at the state U -/
def ab_B (Y : ab_Y) (D : ab_D) (q : Nat → Nat) (U : State) : Prop := (∀ r ∈ yN Y, va_Nw (.methodLinkNest r.1 r.2.1 r.2.2.1 r.2.2.2) U) ∧ va_K D.1 (yC Y) (ab_T D) U ∧ ab_ok Y ∧ ab_Zs (ab_A Y q U.heap.size) U U.heap ∧ ab_X Y U
def ab_C (Y : ab_Y) (K : ab_K) (p : Program) (s : State) (m : MethodId) (args : Array Value) (meth : Method) (c : Code) (D : ab_D) (q : Nat → Nat) : Prop :=
  p.tables.exec = Jvm.exec ∧ c.code = kB K ∧ c.maxLocals = kL K ∧ meth.sig.returnType = kT K ∧ meth.locks = false ∧ s.vm.findClass (kY K).cls = some m.cls ∧ (∀ w ∈ yW Y, w.before args s = true) ∧ c.exceptionTable.toList.map (fun h => (h.startPc, h.endPc, h.handlerPc, h.catchType)) = kH K ∧ ab_B Y D q s
def ab_S (Y : ab_Y) (D : ab_D) (q : Nat → Nat) (M : ab_M) (s : State) (H : Heap) (locs : List Loc) : Prop :=
  va_P D.1 (yC Y) (ab_W Y D q M) H ∧ va_D (ab_A Y q s.heap.size) (ab_W Y D q M) ∧ va_S (ab_A Y q s.heap.size) s.heap H locs
def ab_R (K : ab_K) (d w : Nat) : Room := { frames := d, cells := kC K, slots := kS K, locals := w }
/-- an end: a value, or an exception by its class -/
abbrev ab_O : Type := Option Value ⊕ String
def ab_out (q : Nat → Nat) (r : ab_O) (s : State) (o : Outcome) (t : State) : Prop := match r with
  | .inl v => o = .returned (v.map (ab_v q))
  | .inr E => ∃ (a : Addr) (ce : Cell), o = .threw a ∧ t.heap[a]? = some ce ∧ ce.vm = .none ∧ s.vm.findClass E = some ce.cls
def ab_Qc (Y : ab_Y) (D : ab_D) (q : Nat → Nat) (Q : ab_O → ab_M → Prop) : Array Value → State → Outcome → State → Prop := fun _ s o t =>
  ∃ (r : ab_O) (M : ab_M), ab_out q r s o t ∧ Q r M ∧ va_P D.1 (yC Y) (ab_W Y D q M) t.heap ∧ va_F (ab_A Y q s.heap.size) s t
def ab_Z (Y : ab_Y) (K : ab_K) (D : ab_D) (q : Nat → Nat) (Q : ab_O → ab_M → Prop) (below : List Frame) (args : Array Value) (s : State) : State → Prop := fun t =>
  ∃ o, t.status = .running ∧ Ended t below o ∧ ab_Qc Y D q Q args s o t ∧ s.WarmedH t.vm ∧ ∃ L, s.sameButNew ({ t with vm := s.vm } : State) L (kC K) (kS K) ∧ ∀ z ∈ L, ab_A Y q s.heap.size z.base
/-- THE JUDGEMENT: the method K, with room for d frames and w words of locals above it, stands at pc with the locals lv and the stack st over the memory M, has made n1 cells of n2 slots: it comes to an end with Q; Z: what more is known of its start -/
def ab_Zt : (Nat → Nat) → State → Prop := fun _ _ => True
def AW (Y : ab_Y) (l : Launch) (Z : (Nat → Nat) → State → Prop) (K : ab_K) (d w pc : Nat) (lv : List (Nat × Value)) (st : List Value) (M : ab_M) (n1 n2 : Nat) (Q : ab_O → ab_M → Prop) : Prop :=
  ∀ (p : Program) (e : Env) (s : State) (m : MethodId) (args : Array Value) (below : List Frame) (meth : Method) (c : Code) (D : ab_D) (q : Nat → Nat) (H : Heap) (locs : List Loc) (ls : Array Slot),
    ab_C Y K p s m args meth c D q → Z q s → ab_S Y D q M s H locs → lv_has ls (kL K) (lv.map (ab_p q)) →
    W p l e (ab_R K d w) s m args below meth c H locs n1 n2 (ab_Z Y K D q Q below args s) (F0 m pc ls (st.map (ab_v q)))
theorem ab_mono {p : Program} {l : Launch} {e : Env} {R : Room} {s : State} {m : MethodId} {args : Array Value} {below : List Frame} {meth : Method} {c : Code} {H : Heap} {locs : List Loc} {cells slots : Nat} {Q Q' : State → Prop} {g : JFrame}
    (h : ∀ t, Q t → Q' t) (k : W p l e R s m args below meth c H locs cells slots Q g) : W p l e R s m args below meth c H locs cells slots Q' g := by
  intro T hT X
  obtain ⟨t, a, b⟩ := k T hT X
  exact ⟨t, a, h t b⟩
theorem ab_pat {q : Nat → Nat} {lv : List (Nat × Value)} {j i : Nat} {v : Value} (h : lv[j]? = some (i, v)) : (lv.map (ab_p q))[j]? = some (i, ab_v q v) := by
  rw [List.getElem?_map, h]; rfl
theorem ab_cat (q : Nat → Nat) (v : Value) : (ab_v q v).category = v.category := by cases v <;> rfl
theorem ab_filter (q : Nat → Nat) (f : Nat × Value → Bool) (hf : ∀ x, f (ab_p q x) = f x) (lv : List (Nat × Value)) : (lv.map (ab_p q)).filter f = (lv.filter f).map (ab_p q) := by
  induction lv with
  | nil => rfl
  | cons a t ih =>
    simp only [List.map_cons, List.filter_cons, hf a, ih]
    split <;> rfl
theorem ab_W_at {Y : ab_Y} {D : ab_D} {q : Nat → Nat} {M : ab_M} {id : Nat} (h : id < (yL Y).length) : (ab_W Y D q M)[id]? = some (q id, ab_E Y D q M id) := by
  simp [ab_W, h]
theorem ab_lt {Y : ab_Y} {id : Nat} {x : Nat × Nat × Nat} (h : (yL Y)[id]? = some x) : id < (yL Y).length := (List.getElem?_eq_some_iff.mp h).1
theorem ab_at0 {Y : ab_Y} {D : ab_D} {q : Nat → Nat} {M : ab_M} {id ci N : Nat} (h : (yL Y)[id]? = some (0, ci, N)) : (ab_W Y D q M)[id]? = some (q id, .inr (ci, (List.range N).map (fun k => ab_v q (ab_av Y M ci id k)))) := by
  rw [ab_W_at (ab_lt h)]; simp only [ab_E, h]
theorem ab_at1 {Y : ab_Y} {D : ab_D} {q : Nat → Nat} {M : ab_M} {id n z : Nat} (h : (yL Y)[id]? = some (1, n, z)) : (ab_W Y D q M)[id]? = some (q id, .inl (D.2.1, n, .inl (M.1 id))) := by
  rw [ab_W_at (ab_lt h)]; simp only [ab_E, h]
theorem ab_at2 {Y : ab_Y} {D : ab_D} {q : Nat → Nat} {M : ab_M} {id n z : Nat} (h : (yL Y)[id]? = some (2, n, z)) : (ab_W Y D q M)[id]? = some (q id, .inl (D.2.2.1, n, .inr (.inr (.inr (.inl (M.2.1 id)))))) := by
  rw [ab_W_at (ab_lt h)]; simp only [ab_E, h]
theorem ab_at3 {Y : ab_Y} {D : ab_D} {q : Nat → Nat} {M : ab_M} {id n z : Nat} (h : (yL Y)[id]? = some (3, n, z)) : (ab_W Y D q M)[id]? = some (q id, .inl (D.2.2.2.1, n, .inr (.inr (.inr (.inr (fun i => some (q (yR Y id i)))))))) := by
  rw [ab_W_at (ab_lt h)]; simp only [ab_E, h]
theorem ab_at4 {Y : ab_Y} {D : ab_D} {q : Nat → Nat} {M : ab_M} {id n z : Nat} (h : (yL Y)[id]? = some (4, n, z)) : (ab_W Y D q M)[id]? = some (q id, .inl (D.2.2.2.2, n, .inr (.inl (M.2.2 id)))) := by
  rw [ab_W_at (ab_lt h)]; simp only [ab_E, h]
/-- a world in which one cell has changed -/
theorem ab_W_set {Y : ab_Y} {D : ab_D} {q : Nat → Nat} {M M' : ab_M} {id : Nat} {E : va_E} (h : id < (yL Y).length) (hE : ab_E Y D q M' id = E) (ho : ∀ j, j ≠ id → ab_E Y D q M' j = ab_E Y D q M j) : (ab_W Y D q M).set id (q id, E) = ab_W Y D q M' := by
  apply List.ext_getElem?
  intro j
  by_cases hj : j = id
  · subst hj
    rw [List.getElem?_set_self (by simp [ab_W, h]), ab_W_at h, hE]
  · rw [List.getElem?_set_ne (Ne.symm hj)]
    by_cases hl : j < (yL Y).length
    · rw [ab_W_at hl, ab_W_at hl, ho j hj]
    · rw [List.getElem?_eq_none (by simp [ab_W]; omega), List.getElem?_eq_none (by simp [ab_W]; omega)]
theorem ab_u_self {α : Type} (f : Nat → Nat → α) (a i : Nat) (x : α) : ab_u f a i x a = fun j => if j = i then x else f a j := by funext j; simp [ab_u]
theorem ab_u_ne {α : Type} (f : Nat → Nat → α) {a b : Nat} (i : Nat) (x : α) (h : b ≠ a) : ab_u f a i x b = f b := by funext j; simp [ab_u, h]
theorem ab_u_hit {α : Type} (f : Nat → Nat → α) (a i : Nat) (x : α) : ab_u f a i x a i = x := by simp [ab_u]
theorem ab_u_off {α : Type} (f : Nat → Nat → α) (a : Nat) {i j : Nat} (x : α) (h : j ≠ i) : ab_u f a i x a j = f a j := by simp [ab_u, h]
theorem ab_E_I {Y : ab_Y} {D : ab_D} {q : Nat → Nat} {M : ab_M} {a i : Nat} {x : Int32} {j : Nat} (h : j ≠ a) : ab_E Y D q (ab_sI M a i x) j = ab_E Y D q M j := by
  have hv : ∀ ci k, ab_av Y (ab_sI M a i x) ci j k = ab_av Y M ci j k := by
    intro ci k
    simp only [ab_av, ab_sI, ab_u_ne M.1 i x h]
  simp only [ab_E, hv]
  simp only [ab_sI, ab_u_ne M.1 i x h]
theorem ab_E_D {Y : ab_Y} {D : ab_D} {q : Nat → Nat} {M : ab_M} {a i : Nat} {x : UInt64} {j : Nat} (h : j ≠ a) : ab_E Y D q (ab_sD M a i x) j = ab_E Y D q M j := by
  have hv : ∀ ci k, ab_av Y (ab_sD M a i x) ci j k = ab_av Y M ci j k := by
    intro ci k
    simp only [ab_av, ab_sD, ab_u_ne M.2.1 i x h]
  simp only [ab_E, hv]
  simp only [ab_sD, ab_u_ne M.2.1 i x h]
theorem ab_E_J {Y : ab_Y} {D : ab_D} {q : Nat → Nat} {M : ab_M} {a i : Nat} {x : Int64} {j : Nat} (h : j ≠ a) : ab_E Y D q (ab_sJ M a i x) j = ab_E Y D q M j := by
  have hv : ∀ ci k, ab_av Y (ab_sJ M a i x) ci j k = ab_av Y M ci j k := by
    intro ci k
    simp only [ab_av, ab_sJ, ab_u_ne M.2.2 i x h]
  simp only [ab_E, hv]
  simp only [ab_sJ, ab_u_ne M.2.2 i x h]
