/-! the rules of the world's cells: fields, arrays, ends -/
section AH
variable {Y : ab_Y} {l : Launch} {Z : (Nat → Nat) → State → Prop} {K : ab_K} {d w pc : Nat} {lv : List (Nat × Value)} {st : List Value} {M : ab_M} {n1 n2 : Nat} {Q : ab_O → ab_M → Prop}
theorem aw_get {ic ci N k index : Nat} {C : String} {T : u_T} {v : Value} (hd : decode (kB K) pc = .ok (.getfield index, 3)) (hL : (yL Y)[ic]? = some (0, ci, N)) (hC : (yC Y)[ci]? = some (C, T, N)) (hk : k < N) (hT : (T k).1 = C) (hw : Cond.fieldLink (kY K).cls index C (T k).2.1 (T k).2.2.1 ∈ yW Y) (hv : ab_av Y M ci ic k = v) (h : AW Y l Z K d w (pc + 3) lv (v :: st) M n1 n2 Q) : AW Y l Z K d w pc lv (.ref ic :: st) M n1 n2 Q := by
  intro p e s m args below meth c D q H locs ls C0 hZ S hl
  have C1 := C0
  obtain ⟨c1, c2, c3, c4, c5, c6, c7, c8, -, hK, hok, -⟩ := C1
  refine va_get (v := ab_v q v) c1 c2 c7 (hok.1 ci _ hC).1 c6 hK S.1 ic (ab_at0 hL) hC k hk (c7 _ hw) (fun x hx => by rw [hT] at hx; exact hx) ?_ hd (h p e s m args below meth c D q H locs ls C0 hZ S hl)
  rw [List.getElem?_map, List.getElem?_range hk, ← hv]
  rfl
theorem ab_fs {q : Nat → Nat} {M M' : ab_M} {ci ic N k : Nat} {v : Value} (hv : ab_av Y M' ci ic k = v) (ho : ∀ j, j ≠ k → ab_av Y M' ci ic j = ab_av Y M ci ic j) : ((List.range N).map (fun k => ab_v q (ab_av Y M ci ic k))).set k (ab_v q v) = (List.range N).map (fun k => ab_v q (ab_av Y M' ci ic k)) := by
  apply List.ext_getElem?
  intro j
  by_cases hj : j = k
  · subst hj
    by_cases hl : j < N
    · rw [List.getElem?_set_self (by simpa using hl), List.getElem?_map, List.getElem?_range hl, ← hv]; rfl
    · rw [List.getElem?_eq_none (by simp; omega), List.getElem?_eq_none (by simp; omega)]
  · rw [List.getElem?_set_ne (Ne.symm hj)]
    by_cases hl : j < N
    · rw [List.getElem?_map, List.getElem?_map, List.getElem?_range hl]
      show some (ab_v q (ab_av Y M ci ic j)) = some (ab_v q (ab_av Y M' ci ic j))
      rw [ho j hj]
    · rw [List.getElem?_eq_none (by simp; omega), List.getElem?_eq_none (by simp; omega)]
theorem ab_put {ic ci N k index : Nat} {C : String} {T : u_T} {v : Value} {M' : ab_M} (hd : decode (kB K) pc = .ok (.putfield index, 3)) (hL : (yL Y)[ic]? = some (0, ci, N)) (hC : (yC Y)[ci]? = some (C, T, N)) (hk : k < N) (hT : (T k).1 = C) (hf : (T k).2.2.2 = false) (hw : Cond.fieldLink (kY K).cls index C (T k).2.1 (T k).2.2.1 ∈ yW Y) (hn : ∀ q, narrow (yF Y ci k) (ab_v q v) = ab_v q v) (hfit : ∀ q, fits (yF Y ci k) (ab_v q v) = true)
    (hE : ∀ D q j, j ≠ ic → ab_E Y D q M' j = ab_E Y D q M j) (hv : ab_av Y M' ci ic k = v) (ho : ∀ j, j ≠ k → ab_av Y M' ci ic j = ab_av Y M ci ic j) (h : AW Y l Z K d w (pc + 3) lv st M' n1 n2 Q) : AW Y l Z K d w pc lv (v :: .ref ic :: st) M n1 n2 Q := by
  intro p e s m args below meth c D q H locs ls C0 hZ S hl
  have C1 := C0
  obtain ⟨c1, c2, c3, c4, c5, c6, c7, c8, -, hK, hok, -⟩ := C1
  obtain ⟨w1, w2, w3⟩ := hok.1 ci _ hC
  refine va_put (ty := yF Y ci k) c1 c2 c7 w1 (yF Y ci) w2 w3 c6 hK S.1 S.2.1 S.2.2 ic (ab_at0 hL) hC k hk (c7 _ hw) (fun x hx => by rw [hT] at hx; exact hx) hf (w2 k hk) (hn q) (hfit q) (by simpa using hk) hd (fun H1 locs1 hP hD hS => ?_)
  have hset : (ab_W Y D q M).set ic (q ic, .inr (ci, ((List.range N).map (fun k => ab_v q (ab_av Y M ci ic k))).set k (ab_v q v))) = ab_W Y D q M' :=
    ab_W_set (ab_lt hL) (by simp only [ab_E, hL]; rw [ab_fs hv ho]) (hE D q)
  rw [hset] at hP hD
  exact h p e s m args below meth c D q H1 locs1 ls C0 hZ ⟨hP, hD, hS⟩ hl
theorem aw_putI {ic ci N k index : Nat} {C : String} {T : u_T} {x : Int32} (hd : decode (kB K) pc = .ok (.putfield index, 3)) (hL : (yL Y)[ic]? = some (0, ci, N)) (hC : (yC Y)[ci]? = some (C, T, N)) (hk : k < N) (hF : yF Y ci k = .int) (hT : (T k).1 = C) (hf : (T k).2.2.2 = false) (hw : Cond.fieldLink (kY K).cls index C (T k).2.1 (T k).2.2.1 ∈ yW Y) (h : AW Y l Z K d w (pc + 3) lv st (ab_sI M ic k x) n1 n2 Q) : AW Y l Z K d w pc lv (.int x :: .ref ic :: st) M n1 n2 Q := by
  refine ab_put hd hL hC hk hT hf hw (fun q => by rw [hF]; rfl) (fun q => by rw [hF]; rfl) (fun D q j hj => ab_E_I hj) ?_ (fun j hj => ?_) h
  · simp only [ab_av, hF, ab_sI, ab_u_hit]
  · simp only [ab_av, ab_sI, ab_u_off M.1 ic x hj]
theorem aw_putZ {ic ci N k index : Nat} {C : String} {T : u_T} {x : Int32} (hx : x = 0 ∨ x = 1) (hd : decode (kB K) pc = .ok (.putfield index, 3)) (hL : (yL Y)[ic]? = some (0, ci, N)) (hC : (yC Y)[ci]? = some (C, T, N)) (hk : k < N) (hF : yF Y ci k = .boolean) (hT : (T k).1 = C) (hf : (T k).2.2.2 = false) (hw : Cond.fieldLink (kY K).cls index C (T k).2.1 (T k).2.2.1 ∈ yW Y) (h : AW Y l Z K d w (pc + 3) lv st (ab_sI M ic k x) n1 n2 Q) : AW Y l Z K d w pc lv (.int x :: .ref ic :: st) M n1 n2 Q := by
  refine ab_put hd hL hC hk hT hf hw (fun q => by rw [hF]; rcases hx with rfl | rfl <;> rfl) (fun q => by rw [hF]; rcases hx with rfl | rfl <;> rfl) (fun D q j hj => ab_E_I hj) ?_ (fun j hj => ?_) h
  · simp only [ab_av, hF, ab_sI, ab_u_hit]
  · simp only [ab_av, ab_sI, ab_u_off M.1 ic x hj]
theorem aw_putD {ic ci N k index : Nat} {C : String} {T : u_T} {x : UInt64} (hd : decode (kB K) pc = .ok (.putfield index, 3)) (hL : (yL Y)[ic]? = some (0, ci, N)) (hC : (yC Y)[ci]? = some (C, T, N)) (hk : k < N) (hF : yF Y ci k = .double) (hT : (T k).1 = C) (hf : (T k).2.2.2 = false) (hw : Cond.fieldLink (kY K).cls index C (T k).2.1 (T k).2.2.1 ∈ yW Y) (h : AW Y l Z K d w (pc + 3) lv st (ab_sD M ic k x) n1 n2 Q) : AW Y l Z K d w pc lv (.double x :: .ref ic :: st) M n1 n2 Q := by
  refine ab_put hd hL hC hk hT hf hw (fun q => by rw [hF]; rfl) (fun q => by rw [hF]; rfl) (fun D q j hj => ab_E_D hj) ?_ (fun j hj => ?_) h
  · simp only [ab_av, hF, ab_sD, ab_u_hit]
  · simp only [ab_av, ab_sD, ab_u_off M.2.1 ic x hj]
theorem aw_iald {ic n z : Nat} {i : Int32} (hd : decode (kB K) pc = .ok (.iaload, 1)) (hL : (yL Y)[ic]? = some (1, n, z)) (hi : vp_in i n) (h : AW Y l Z K d w (pc + 1) lv (.int (M.1 ic i.toNatClampNeg) :: st) M n1 n2 Q) : AW Y l Z K d w pc lv (.int i :: .ref ic :: st) M n1 n2 Q := by
  intro p e s m args below meth c D q H locs ls C hZ S hl
  exact va_iald C.1 C.2.1 C.2.2.2.2.2.2.2.2.2.1 S.1 ic 0 (ab_at1 hL) rfl hi hd (h p e s m args below meth c D q H locs ls C hZ S hl)
theorem aw_dald {ic n z : Nat} {i : Int32} (hd : decode (kB K) pc = .ok (.daload, 1)) (hL : (yL Y)[ic]? = some (2, n, z)) (hi : vp_in i n) (h : AW Y l Z K d w (pc + 1) lv (.double (M.2.1 ic i.toNatClampNeg) :: st) M n1 n2 Q) : AW Y l Z K d w pc lv (.int i :: .ref ic :: st) M n1 n2 Q := by
  intro p e s m args below meth c D q H locs ls C hZ S hl
  exact va_dald C.1 C.2.1 C.2.2.2.2.2.2.2.2.2.1 S.1 ic 1 (ab_at2 hL) rfl hi hd (h p e s m args below meth c D q H locs ls C hZ S hl)
theorem aw_lald {ic n z : Nat} {i : Int32} (hd : decode (kB K) pc = .ok (.laload, 1)) (hL : (yL Y)[ic]? = some (4, n, z)) (hi : vp_in i n) (h : AW Y l Z K d w (pc + 1) lv (.long (M.2.2 ic i.toNatClampNeg) :: st) M n1 n2 Q) : AW Y l Z K d w pc lv (.int i :: .ref ic :: st) M n1 n2 Q := by
  intro p e s m args below meth c D q H locs ls C hZ S hl
  exact va_lald C.1 C.2.1 C.2.2.2.2.2.2.2.2.2.1 S.1 ic 3 (ab_at4 hL) rfl hi hd (h p e s m args below meth c D q H locs ls C hZ S hl)
theorem aw_aald {ic n z : Nat} {i : Int32} (hd : decode (kB K) pc = .ok (.aaload, 1)) (hL : (yL Y)[ic]? = some (3, n, z)) (hi : vp_in i n) (h : AW Y l Z K d w (pc + 1) lv (.ref (yR Y ic i.toNatClampNeg) :: st) M n1 n2 Q) : AW Y l Z K d w pc lv (.int i :: .ref ic :: st) M n1 n2 Q := by
  intro p e s m args below meth c D q H locs ls C hZ S hl
  have hlt : i.toNatClampNeg < n := Nat.not_le.mp fun z => hi (Or.inr z)
  have hK := C.2.2.2.2.2.2.2.2.2.1
  exact W.aald (v := .ref (q (yR Y ic i.toNatClampNeg))) (ty := .array .int) C.1 C.2.1 (S.1 ic _ (ab_at3 hL)) ((hK.2 2 _ rfl).1 n (fun j => va_rf (some (q (yR Y ic j))))) rfl (fun z => by cases z) (by show ¬ (i < 0 ∨ (arrV _ _ _).slots.size ≤ _); rw [arrV_size]; exact hi) (by show (arrV _ _ _).slots[_]? = _; rw [arrV_read _ _ hlt]; rfl) rfl rfl hd (h p e s m args below meth c D q H locs ls C hZ S hl)
theorem aw_alen {ic n z : Nat} {v : Int32} (hd : decode (kB K) pc = .ok (.arraylength, 1)) (hL : (yL Y)[ic]? = some (1, n, z)) (hv : Int32.ofNat n = v) (h : AW Y l Z K d w (pc + 1) lv (.int v :: st) M n1 n2 Q) : AW Y l Z K d w pc lv (.ref ic :: st) M n1 n2 Q := by
  intro p e s m args below meth c D q H locs ls C hZ S hl
  exact va_alen C.1 C.2.1 C.2.2.2.2.2.2.2.2.2.1 S.1 ic 0 (ab_at1 hL) rfl hv hd (h p e s m args below meth c D q H locs ls C hZ S hl)
theorem aw_iast {ic n z : Nat} {i x : Int32} (hd : decode (kB K) pc = .ok (.iastore, 1)) (hL : (yL Y)[ic]? = some (1, n, z)) (hi : vp_in i n) (h : AW Y l Z K d w (pc + 1) lv st (ab_sI M ic i.toNatClampNeg x) n1 n2 Q) : AW Y l Z K d w pc lv (.int x :: .int i :: .ref ic :: st) M n1 n2 Q := by
  intro p e s m args below meth c D q H locs ls C hZ S hl
  refine va_iast C.1 C.2.1 C.2.2.2.2.2.2.2.2.2.1 S.1 S.2.1 S.2.2 ic 0 (ab_at1 hL) rfl hi hd (fun H1 locs1 hP hD hS => ?_)
  have e1 : ∀ f, f = upd (M.1 ic) i.toNatClampNeg x → (ab_W Y D q M).set ic (q ic, .inl (D.2.1, n, .inl f)) = ab_W Y D q (ab_sI M ic i.toNatClampNeg x) := fun f hf =>
    ab_W_set (ab_lt hL) (by subst hf; simp only [ab_E, hL, ab_sI, ab_u_self]; rfl) (fun j hj => ab_E_I hj)
  rw [e1 _ (by first | rfl | (simp only [vp_nar]; rfl))] at hP hD
  exact h p e s m args below meth c D q H1 locs1 ls C hZ ⟨hP, hD, hS⟩ hl
theorem aw_dast {ic n z : Nat} {i : Int32} {x : UInt64} (hd : decode (kB K) pc = .ok (.dastore, 1)) (hL : (yL Y)[ic]? = some (2, n, z)) (hi : vp_in i n) (h : AW Y l Z K d w (pc + 1) lv st (ab_sD M ic i.toNatClampNeg x) n1 n2 Q) : AW Y l Z K d w pc lv (.double x :: .int i :: .ref ic :: st) M n1 n2 Q := by
  intro p e s m args below meth c D q H locs ls C hZ S hl
  refine va_dast C.1 C.2.1 C.2.2.2.2.2.2.2.2.2.1 S.1 S.2.1 S.2.2 ic 1 (ab_at2 hL) rfl hi hd (fun H1 locs1 hP hD hS => ?_)
  have e1 : (ab_W Y D q M).set ic (q ic, .inl (D.2.2.1, n, .inr (.inr (.inr (.inl (vf_upd (M.2.1 ic) i.toNatClampNeg x)))))) = ab_W Y D q (ab_sD M ic i.toNatClampNeg x) :=
    ab_W_set (ab_lt hL) (by simp only [ab_E, hL, ab_sD, ab_u_self]; rfl) (fun j hj => ab_E_D hj)
  rw [e1] at hP hD
  exact h p e s m args below meth c D q H1 locs1 ls C hZ ⟨hP, hD, hS⟩ hl
theorem aw_last {ic n z : Nat} {i : Int32} {x : Int64} (hd : decode (kB K) pc = .ok (.lastore, 1)) (hL : (yL Y)[ic]? = some (4, n, z)) (hi : vp_in i n) (h : AW Y l Z K d w (pc + 1) lv st (ab_sJ M ic i.toNatClampNeg x) n1 n2 Q) : AW Y l Z K d w pc lv (.long x :: .int i :: .ref ic :: st) M n1 n2 Q := by
  intro p e s m args below meth c D q H locs ls C hZ S hl
  refine va_last C.1 C.2.1 C.2.2.2.2.2.2.2.2.2.1 S.1 S.2.1 S.2.2 ic 3 (ab_at4 hL) rfl hi hd (fun H1 locs1 hP hD hS => ?_)
  have e1 : (ab_W Y D q M).set ic (q ic, .inl (D.2.2.2.2, n, .inr (.inl (vp_updL (M.2.2 ic) i.toNatClampNeg x)))) = ab_W Y D q (ab_sJ M ic i.toNatClampNeg x) :=
    ab_W_set (ab_lt hL) (by simp only [ab_E, hL, ab_sJ, ab_u_self]; rfl) (fun j hj => ab_E_J hj)
  rw [e1] at hP hD
  exact h p e s m args below meth c D q H1 locs1 ls C hZ ⟨hP, hD, hS⟩ hl
/-- the kit's end, in these words -/
theorem ab_end {p : Program} {e : Env} {R : Room} {s : State} {m : MethodId} {args : Array Value} {below : List Frame} {meth : Method} {c : Code} {D : ab_D} {q : Nat → Nat} {H : Heap} {locs : List Loc} {g : JFrame} {free : Addr → Prop} (hf : ∀ a, free a → ab_A Y q s.heap.size a)
    (h : W p l e R s m args below meth c H locs (kC K) (kS K) (MQ below (ab_Qc Y D q Q) args s (kC K) (kS K) free) g) : W p l e R s m args below meth c H locs (kC K) (kS K) (ab_Z Y K D q Q below args s) g := by
  refine ab_mono (fun t ht => ?_) h
  obtain ⟨o, a1, a2, a3, L, ⟨-, a4, a5⟩, a6⟩ := ht
  exact ⟨o, a1, a2, a3, a4, L, a5, fun z hz => hf _ (a6 z hz)⟩
theorem aw_iret {x : Int32} (hd : decode (kB K) pc = .ok (.ireturn, 1)) (hr : kT K = some .int) (h1 : n1 ≤ kC K) (h2 : n2 ≤ kS K) (hQ : Q (.inl (some (.int x))) M) : AW Y l Z K d w pc lv [.int x] M n1 n2 Q := by
  intro p e s m args below meth c D q H locs ls C hZ S hl
  have hlocks : meth.locks = false := C.2.2.2.2.1
  refine W.widen h1 h2 (ab_end (fun _ z => z) (W.iret C.1 C.2.1 (C.2.2.2.1.trans hr) (fun t ht _ => ?_) S.2.2.2.2 hd hlocks))
  exact ⟨.inl (some (.int x)), M, rfl, hQ, by rw [ht]; exact S.1, S.2.2.F ht⟩
theorem aw_zret {x : Int32} (hx : x = 0 ∨ x = 1) (hd : decode (kB K) pc = .ok (.ireturn, 1)) (hr : kT K = some .boolean) (h1 : n1 ≤ kC K) (h2 : n2 ≤ kS K) (hQ : Q (.inl (some (.int x))) M) : AW Y l Z K d w pc lv [.int x] M n1 n2 Q := by
  intro p e s m args below meth c D q H locs ls C hZ S hl
  have hlocks : meth.locks = false := C.2.2.2.2.1
  refine W.widen h1 h2 (ab_end (fun _ z => z) (W.zret C.1 C.2.1 (C.2.2.2.1.trans hr) (by rcases hx with rfl | rfl <;> rfl) (fun t ht _ => ?_) S.2.2.2.2 hd hlocks))
  exact ⟨.inl (some (.int x)), M, rfl, hQ, by rw [ht]; exact S.1, S.2.2.F ht⟩
theorem aw_dret {x : UInt64} (hd : decode (kB K) pc = .ok (.dreturn, 1)) (hr : kT K = some .double) (h1 : n1 ≤ kC K) (h2 : n2 ≤ kS K) (hQ : Q (.inl (some (.double x))) M) : AW Y l Z K d w pc lv [.double x] M n1 n2 Q := by
  intro p e s m args below meth c D q H locs ls C hZ S hl
  have hlocks : meth.locks = false := C.2.2.2.2.1
  refine W.widen h1 h2 (ab_end (fun _ z => z) (W.dret C.1 C.2.1 (C.2.2.2.1.trans hr) (fun t ht _ => ?_) S.2.2.2.2 hd hlocks))
  exact ⟨.inl (some (.double x)), M, rfl, hQ, by rw [ht]; exact S.1, S.2.2.F ht⟩
theorem aw_vret (hd : decode (kB K) pc = .ok (.return_, 1)) (hr : kT K = none) (h1 : n1 ≤ kC K) (h2 : n2 ≤ kS K) (hQ : Q (.inl none) M) : AW Y l Z K d w pc lv [] M n1 n2 Q := by
  intro p e s m args below meth c D q H locs ls C hZ S hl
  have hlocks : meth.locks = false := C.2.2.2.2.1
  refine W.widen h1 h2 (ab_end (fun _ z => z) (W.vret C.1 C.2.1 (C.2.2.2.1.trans hr) (fun t ht _ => ?_) S.2.2.2.2 hd hlocks))
  exact ⟨.inl none, M, rfl, hQ, by rw [ht]; exact S.1, S.2.2.F ht⟩
end AH
