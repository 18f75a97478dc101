/-! throwing, catching, and calls of methods with handlers -/
def ab_ex (Y : ab_Y) : List Cond := (yQ Y).1.map (fun y => Cond.declares y) ++ (yQ Y).2.1.map (fun r => Cond.castable r.1 r.2)
def ab_XC (Y : ab_Y) (D : ab_D) (q : Nat → Nat) (Q : ab_O → ab_M → Prop) : String → State → State → Prop := fun E s t =>
  ∃ M : ab_M, Q (.inr E) M ∧ va_P D.1 (yC Y) (ab_W Y D q M) t.heap ∧ va_F (ab_A Y q s.heap.size) s t
theorem ab_exq {Y : ab_Y} {s : State} (h : ab_X Y s) {args : Array Value} : ∀ w ∈ ab_ex Y, w.before args s = true := by
  intro w hw
  rcases List.mem_append.mp hw with h1 | h1
  · obtain ⟨y, hy, rfl⟩ := List.mem_map.mp h1
    exact va_Nw.use rfl (h.1 y hy)
  · obtain ⟨r, hr, rfl⟩ := List.mem_map.mp h1
    exact va_Nw.use rfl (h.2.1 r hr)
section AT
variable {Y : ab_Y} {l : Launch} {Z : (Nat → Nat) → State → Prop} {K K' : ab_K} {d w d' w' pc : Nat} {lv : List (Nat × Value)} {st : List Value} {M : ab_M} {n1 n2 : Nat} {Q : ab_O → ab_M → Prop} {As rest : List Value}
theorem ab_zx {D : ab_D} {q : Nat → Nat} {below : List Frame} {args : Array Value} {s : State} : ∀ t, vx_MQ below (ab_Qc Y D q Q) (ab_XC Y D q Q) args s (kC K) (kS K) (ab_A Y q s.heap.size) t → ab_Z Y K D q Q below args s t := by
  intro t ht
  obtain ⟨o, a1, a2, a3⟩ := ht
  rcases a3 with ⟨b1, L, ⟨-, b2, b3⟩, b4⟩ | ⟨a, rfl, E, ce, L, ⟨M', c1, c2, c3⟩, e1, e2, e3, e4, e5, e6⟩
  · exact ⟨o, a1, a2, b1, b2, L, b3, b4⟩
  · exact ⟨_, a1, a2, ⟨.inr E, M', ⟨a, ce, rfl, e1, e2, e3⟩, c1, c2, c3⟩, e4, L, e5, e6⟩
theorem ab_xz {D : ab_D} {q : Nat → Nat} {below : List Frame} {args : Array Value} {s : State} : ∀ t, ab_Z Y K D q Q below args s t → vx_MQ below (ab_Qc Y D q Q) (ab_XC Y D q Q) args s (kC K) (kS K) (ab_A Y q s.heap.size) t := by
  intro t ht
  obtain ⟨o, a1, a2, ⟨r, M', b1, b2, b3, b4⟩, a4, L, a5, a6⟩ := ht
  cases r with
  | inl v => exact ⟨o, a1, a2, Or.inl ⟨⟨.inl v, M', b1, b2, b3, b4⟩, L, ⟨⟨_, b1⟩, a4, a5⟩, a6⟩⟩
  | inr E =>
    obtain ⟨a, ce, rfl, e1, e2, e3⟩ := b1
    exact ⟨_, a1, a2, Or.inr ⟨a, rfl, E, ce, L, ⟨M', b2, b3, b4⟩, e1, e2, e3, a4, a5, a6⟩⟩
theorem aw_throw {E text : String} {names : List String} {ik is ic : Nat} (hl : l.stackTraces = false) (d0 : decode (kB K) pc = .ok (.new ik, 3)) (d3 : decode (kB K) (pc + 3) = .ok (.dup, 1)) (d4 : decode (kB K) (pc + 4) = .ok (.ldc is, 2)) (d6 : decode (kB K) (pc + 6) = .ok (.invokespecial ic, 3)) (d9 : decode (kB K) (pc + 9) = .ok (.athrow, 1))
    (hfit : Bundle.fit E = true) (hnames : ∀ n ∈ names, Bundle.fit n = true) (hk : Cond.classLink (kY K).cls ik E ∈ yW Y) (hini : Cond.initialized E ∈ yW Y) (hstr : ((kY K).cls, is, text) ∈ (yQ Y).2.2.2)
    (hat : ∀ w ∈ vx_atS (kY K).cls ic E names, w ∈ yW Y ∨ w ∈ ab_ex Y) (hgood : ∀ w ∈ Cond.classLink (kY K).cls ik E :: Cond.initialized E :: vx_atS (kY K).cls ic E names, vx_ot w = true)
    (hH : kH K = []) (hf : names.length + 3 < d) (hw : (st.map fun v => v.category).sum + (13 * (names.length + 1) + 43) ≤ w) (h1 : n1 + 1 ≤ kC K) (h2 : n2 + 6 ≤ kS K) (hQ : Q (.inr E) M) : AW Y l Z K d w pc lv st M n1 n2 Q := by
  intro p e s m args below meth c D q H locs ls C hZ S hls
  obtain ⟨c1, c2, c3, c4, c5, c6, c7, c8, -, -, hok, ⟨hU, hN⟩, hX⟩ := C
  obtain ⟨sa, hsa⟩ := hX.2.2.2 _ hstr
  have ht : c.exceptionTable.toList = [] := by
    rw [hH] at c8
    exact List.map_eq_nil_iff.mp c8
  refine ab_mono ab_zx (vx_throwS (A := ab_A Y q s.heap.size) (text := text) (sa := sa) c1 c2 hl c6 hfit hnames (c7 _ hk) (c7 _ hini) hsa ?_ hgood hU hN S.2.2 (hls.1.trans c3.symm) d0 d3 d4 d6 d9 (by rw [ht]; intro x hx; cases hx) hf (by rw [ab_sum]; exact hw) h1 h2 c5 ?_ S.2.2.2.2 h1 h2)
  · intro w hw
    rcases hat w hw with h | h
    · exact c7 w h
    · exact ab_exq hX w h
  · intro t _ hz ho
    refine ⟨M, hQ, S.1.kept (fun k x hx => ho x.1 ((S.1 k x hx).lt)), Nat.le_trans S.2.2.1 hz, fun x h1 h2 => ?_⟩
    rw [ho x (Nat.lt_of_lt_of_le h1 S.2.2.1)]
    exact S.2.2.2.1 x h1 h2
theorem ab_xmet (hy : plainName (kY K).cls = true) (hh : kH K = []) (hlen : (lg_sl As).length ≤ kL K) (h : AW Y l ab_Zt K d w 0 (lv_args 0 As) [] M 0 0 Q) (D : ab_D) (q : Nat → Nat) (sz : Nat) :
    vx_Met l (kY K) (ab_cw K :: yW Y) (ab_R K d w) (ab_Pc Y D q As M sz) (ab_Qc Y D q Q) (ab_XC Y D q Q) (kC K) (kS K) (ab_A Y q sz) := by
  refine vx_ofW (cc := kB K) (maxL := kL K) (ret := kT K) (ws' := yW Y) hy (ab_cw0 hh) ?_
  intro p e s m args below meth c s₁ B hml _ hv
  have hsz : s.heap.size = sz := hv.2.1
  rw [← hsz]
  exact ab_mono ab_xz (ab_body hlen h (ab_ctx B hml hv.2.2.1) hv)
/-- by which row of the table an exception is caught -/
def ab_catch (Y : ab_Y) (K : ab_K) (pc : Nat) (E : String) (hp : Nat) : Prop := ∃ (pre : List (Nat × Nat × Nat × Nat)) (x : Nat × Nat × Nat × Nat) (suf : List (Nat × Nat × Nat × Nat)), kH K = pre ++ x :: suf ∧ x.2.2.1 = hp ∧
  (x.1 ≤ pc ∧ pc < x.2.1) ∧ x.2.2.2 ≠ 0 ∧ Cond.classLink (kY K).cls x.2.2.2 E ∈ yW Y ∧ (E, E) ∈ (yQ Y).2.1 ∧ ∀ z ∈ pre, z.2.2.2 ≠ 0 ∧ ∃ nm, Cond.classLink (kY K).cls z.2.2.2 nm ∈ yW Y ∧ (E, nm) ∈ (yQ Y).2.2.1
def ab_aft (Y : ab_Y) (l : Launch) (Z : (Nat → Nat) → State → Prop) (K : ab_K) (d w pc : Nat) (lv : List (Nat × Value)) (rest : List Value) (n1 n2 : Nat) (Q : ab_O → ab_M → Prop) : ab_O → ab_M → Prop := fun r M => match r with
  | .inl v => AW Y l Z K d w (pc + 3) lv (v.toList ++ rest) M n1 n2 Q
  | .inr E => ∃ (hp len i : Nat), ab_catch Y K pc E hp ∧ i < kL K ∧ ((∃ k : Fin 4, decode (kB K) hp = .ok (.astore_n k, 1) ∧ (k : Nat) = i ∧ len = 1) ∨ (decode (kB K) hp = .ok (.astore i, 2) ∧ len = 2)) ∧ AW Y l Z K d w (hp + len) (lv.filter (fun z => !(z.1 == i) && !(z.1 + 1 == i && z.2.category == 2))) [] M n1 n2 Q
theorem aw_callVX {b ci N index : Nat} {C : String} {T : u_T} (hd : decode (kB K) pc = .ok (.invokevirtual index, 3)) (hL : (yL Y)[b]? = some (0, ci, N)) (hC : (yC Y)[ci]? = some (C, T, N)) (hcl : (kY K').cls = C)
    (hx : ab_site Y K' (wsV (kY K).cls index C (kY K') [ab_cw K']) As.length) (hst : st = As.reverse ++ .ref b :: rest) (hlen : (lg_sl (.ref b :: As)).length ≤ kL K') (hr : (rest.map fun v => v.category).sum ≤ 8) (h1 : n1 + kC K' ≤ kC K) (h2 : n2 + kS K' ≤ kS K) (hd1 : d' + 1 ≤ d) (hw1 : 19 + kL K' + w' ≤ w)
    (h : AW Y l ab_Zt K' d' w' 0 (lv_args 0 (.ref b :: As)) [] M 0 0 (ab_aft Y l Z K d w pc lv rest (n1 + kC K') (n2 + kS K') Q)) : AW Y l Z K d w pc lv st M n1 n2 Q := by
  intro p e s m args below meth c D q H locs ls C0 hZ S hl
  obtain ⟨x1, x2, x3, x4⟩ := hx
  have hok := C0.2.2.2.2.2.2.2.2.2.2.1
  have hstk : (F0 m pc ls (st.map (ab_v q))).stack = (As.map (ab_v q)).reverse ++ .ref (q b) :: rest.map (ab_v q) := by
    show st.map (ab_v q) = _
    rw [hst]
    simp [ab_v]
  have hrun := vx_runV (g := F0 m pc ls (st.map (ab_v q))) (l := l) (e := e) (below := below) (meth := meth) (locs := locs) (cells := n1) (slots := n2) (As := As.map (ab_v q)) (rest := rest.map (ab_v q)) (b := q b) ⟨C0.1, C0.2.1, C0.2.2.1, C0.2.2.2.2.2.1, C0.2.2.2.2.2.2.1⟩ (ab_xmet x3 x4 hlen h D q H.size)
    (cwV As.length C0.2.2.2.2.2.2.1 (ab_wsG hok x1) (ws' := yW Y) (ab_cw0 x4) rfl rfl ⟨hcl, x2⟩ (R := ab_R K d w) ⟨hd1, by show 8 + (kL K' + 11) + w' ≤ w; omega⟩)
    ⟨ab_blind, va_recv C0.2.2.2.2.2.2.2.2.2.1 S.1 hC (ab_at0 hL), fun U hU hW => ab_pre C0 S U hU hW⟩ rfl (by simp) hl.1 hstk (lv_room (by rw [ab_sum]; exact hr)) hd ⟨h1, h2⟩
  intro T hT X
  have hAA : ∀ x, ab_A Y q H.size x → ab_A Y q s.heap.size x := ab_A_new S.2.2.1
  have hS' : ∀ (st₀ t T' : State) (L : List Loc), st₀.heap = H → T'.heap = t.heap → va_F (ab_A Y q st₀.heap.size) st₀ t → (∀ z ∈ L, ab_A Y q H.size z.base) → va_S (ab_A Y q s.heap.size) s.heap T'.heap (locs ++ L) := by
    intro st₀ t T' L h0 e1 hF hL
    rw [← h0] at hAA hL
    have hz : s.heap.size ≤ st₀.heap.size := by rw [h0]; exact S.2.2.1
    refine ⟨Nat.le_trans hz (by rw [e1]; exact hF.1), fun x h1 h2 => ?_, fun z hz => ?_⟩
    · rw [e1, hF.2 x (Nat.lt_of_lt_of_le h1 hz) (fun z => h2 (hAA _ z)), h0]
      exact S.2.2.2.1 x h1 h2
    · rcases List.mem_append.mp hz with h | h
      · exact S.2.2.2.2 z h
      · exact hAA _ (hL z h)
  have hD' : ∀ M' : ab_M, va_D (ab_A Y q s.heap.size) (ab_W Y D q M') := fun M' => ab_D_any S.2.1 (fun id h => Or.inl ⟨id, h, rfl⟩)
  rcases hrun T hT X with ⟨v, st₀, t, T', L, h0, X', hL2, e1, e2, ⟨r, M', b1, b2, b3, b4⟩, go⟩ | ⟨a, st₀, t, T', L, E, ce, h0, X', hL2, e1, e2, ⟨M', b2, b3, b4⟩, hce, hcv, hcc, go⟩
  · cases r with
    | inr E =>
      obtain ⟨a, ce, b1, -⟩ := b1
      cases b1
    | inl vr =>
      have hw : v = vr.map (ab_v q) := by
        have : Outcome.returned v = Outcome.returned (vr.map (ab_v q)) := b1
        cases this; rfl
      subst hw
      have hk : AW Y l Z K d w (pc + 3) lv (vr.toList ++ rest) M' (n1 + kC K') (n2 + kS K') Q := b2
      obtain ⟨t2, a1, a2⟩ := hk p e s m args below meth c D q T'.heap (locs ++ L) ls C0 hZ ⟨by rw [e1]; exact b3, hD' M', hS' st₀ t T' L h0 e1 b4 hL2⟩ hl T' rfl X'
      refine ⟨t2, go t2 ?_, a2⟩
      have hst : (vr.toList ++ rest).map (ab_v q) = (vr.map (ab_v q)).toList ++ rest.map (ab_v q) := by cases vr <;> simp
      rw [hst] at a1
      exact a1
  · obtain ⟨hp, len, i, ⟨pre, x, suf, k1, k2, k3, k4, k5, k6, k7⟩, hi, hst, hk⟩ := b2
    have hX := C0.2.2.2.2.2.2.2.2.2.2.2.2
    have htab : c.exceptionTable.toList = tableOf pre ++ tableOf [x] ++ tableOf suf := by
      have := C0.2.2.2.2.2.2.2.1
      rw [← table_eq c.exceptionTable.toList, this, k1]
      simp [tableOf]
    have hcat := vx_catch (Q := ab_Z Y K D q Q below args s) (l := l) (e := e) (R := ab_R K d w) (below := below) (meth := meth) (locs := locs ++ L) (cells := n1 + kC K') (slots := n2 + kS K') (ls := ls) (rest := rest.map (ab_v q)) (own := (kY K).cls) (name := E) (E := E) (ce := ce) (q := a) (pc := pc) (H := T'.heap) C0.2.2.2.2.2.1 (tableOf pre) ⟨x.1, x.2.1, x.2.2.1, x.2.2.2⟩ (tableOf suf) (by rw [htab]; simp [tableOf])
      (fun z hz => by
        obtain ⟨z0, hz0, rfl⟩ := List.mem_map.mp hz
        obtain ⟨q1, nm, q2, q3⟩ := k7 z0 hz0
        exact Or.inr ⟨q1, nm, C0.2.2.2.2.2.2.1 _ q2, hX.2.2.1 _ q3⟩) (by simp [k3]) k4 (C0.2.2.2.2.2.2.1 _ k5) (va_Nw.use rfl (hX.2.1 _ k6)) (by rw [e1]; exact hce) hcv hcc
      (by
        have hgo : ∀ (lv' : List (Nat × Value)) (ls' : Array Slot), lv_has ls' (kL K) lv' → lv' = (i, Value.ref a) :: (lv.map (ab_p q)).filter (fun z => !(z.1 == i) && !(z.1 + 1 == i && z.2.category == 2)) → W p l e (ab_R K d w) s m args below meth c T'.heap (locs ++ L) (n1 + kC K') (n2 + kS K') (ab_Z Y K D q Q below args s) (F0 m (hp + len) ls' []) := by
          intro lv' ls' h9 e9
          refine hk p e s m args below meth c D q T'.heap (locs ++ L) ls' C0 hZ ⟨by rw [e1]; exact b3, hD' M', hS' st₀ t T' L h0 e1 b4 hL2⟩ ⟨h9.1, h9.2.1, fun z hz => h9.2.2 z ?_⟩
          rw [e9, ab_filter q _ (fun z => by simp only [ab_p, ab_cat])]
          exact List.mem_cons_of_mem _ hz
        show W _ _ _ _ _ _ _ _ _ _ _ _ _ _ _ (F0 m x.2.2.1 ls [.ref a])
        rw [k2]
        rcases hst with ⟨k, q1, q2, rfl⟩ | ⟨q1, rfl⟩
        · exact lv_astore_n C0.1 C0.2.1 q1 q2 hl hi rfl (fun ls' h9 => hgo _ ls' h9 rfl)
        · exact lv_astore C0.1 C0.2.1 q1 hl hi rfl (fun ls' h9 => hgo _ ls' h9 rfl))
    obtain ⟨t2, a1, a2⟩ := hcat T' rfl X'
    exact ⟨t2, go.trans a1, a2⟩
/-- a static call of a method with handlers, which returns -/
theorem aw_callSW {index : Nat} (hd : decode (kB K) pc = .ok (.invokestatic index, 3)) (hcl : (kY K').cls = (kY K).cls) (hne : kH K' ≠ [])
    (hx : ab_siteW Y K' (wsS (kY K).cls index (kY K') [ab_cw K']) As.length) (hst : st = As.reverse ++ rest) (hlen : (lg_sl As).length ≤ kL K') (hr : (rest.map fun v => v.category).sum ≤ 8) (h1 : n1 + kC K' ≤ kC K) (h2 : n2 + kS K' ≤ kS K) (hd1 : d' + 1 ≤ d) (hw1 : 19 + kL K' + w' ≤ w)
    (h : AW Y l ab_Zt K' d' w' 0 (lv_args 0 As) [] M 0 0 (ab_ret (fun v M' => AW Y l Z K d w (pc + 3) lv (v.toList ++ rest) M' (n1 + kC K') (n2 + kS K') Q))) : AW Y l Z K d w pc lv st M n1 n2 Q := by
  intro p e s m args below meth c D q H locs ls C0 hZ S hl
  obtain ⟨x1, x2, x3⟩ := hx
  have hok := C0.2.2.2.2.2.2.2.2.2.2.1
  have hcw : ab_cw K' :: yW Y = Cond.codeWith (kY K') (kB K') (kL K') (kT K') (kH K') :: yW Y := by
    cases hk : kH K' with
    | nil => exact absurd hk hne
    | cons a t => simp [ab_cw, hk]
  have hM : Met l (kY K') (ab_cw K' :: yW Y) (ab_R K' d' w') (ab_Pc Y D q As M H.size) (ab_Qc Y D q (ab_ret (fun v M' => AW Y l Z K d w (pc + 3) lv (v.toList ++ rest) M' (n1 + kC K') (n2 + kS K') Q))) (kC K') (kS K') (ab_A Y q H.size) := by
    refine va_MetW (cc := kB K') (maxL := kL K') (ret := kT K') (hh := kH K') (ws' := yW Y) x3 hcw ?_
    intro p e s m args below meth c s₁ B hml hv
    have hsz : s.heap.size = H.size := hv.2.1
    refine ab_mono (fun t ht => ?_) (ab_body hlen h (ab_ctx B hml hv.2.2.1) hv)
    obtain ⟨o, a1, a2, a3, a4, L, a5, a6⟩ := ht
    refine ⟨o, a1, a2, a3, L, ⟨?_, a4, a5⟩, fun z hz => by rw [← hsz]; exact a6 z hz⟩
    obtain ⟨r, M', b1, b2, -⟩ := a3
    cases r with
    | inl v => exact ⟨_, b1⟩
    | inr E => exact b2.elim
  have hG : GoodIn (yW Y) (va_wsS (kY K).cls index (kY K') (ab_cw K' :: yW Y)) := by
    refine ab_wsG (w0 := [.methodLink (kY K).cls index (kY K'), .static (kY K'), .initialized (kY K').cls]) hok ?_
    rw [hcl]
    exact x1
  refine ab_back (K' := K') (rest := rest) C0 hZ S hl (vx_runSW (As := As.map (ab_v q)) ⟨C0.1, C0.2.1, C0.2.2.1, C0.2.2.2.2.2.1, C0.2.2.2.2.2.2.1⟩ hM
    (vx_cwSW As.length C0.2.2.2.2.2.2.1 hG (ws' := yW Y) hcw rfl rfl x2 ⟨hd1, by show 8 + (kL K' + 11) + w' ≤ w; omega⟩)
    ⟨ab_blind, fun U hU hW => ab_pre C0 S U hU hW⟩ rfl (by simp) hl.1 ?_ (lv_room (by rw [ab_sum]; exact hr)) hd ⟨h1, h2⟩)
  show st.map (ab_v q) = _
  rw [hst]
  simp
theorem aw_min {index : Nat} {x y : Int32} (hd : decode (kB K) pc = .ok (.invokestatic index, 3)) (hw : ∀ c ∈ [Cond.methodLink (kY K).cls index Lib.Math.min.name, Cond.static Lib.Math.min.name, Cond.initialized "java/lang/Math", Cond.code Lib.Math.min.name Lib.Math.min.code 2 (some .int)], c ∈ yW Y) (hf : 1 ≤ d) (hl0 : (st.map fun v => v.category).sum + 13 ≤ w) (h1 : n1 ≤ kC K) (h2 : n2 ≤ kS K)
    (h : AW Y l Z K d w (pc + 3) lv (.int (if y < x then y else x) :: st) M n1 n2 Q) : AW Y l Z K d w pc lv (.int y :: .int x :: st) M n1 n2 Q := by
  intro p e s m args below meth c D q H locs ls C hZ S hl
  have hts := C.2.2.2.2.2.2.1
  exact va_mmin C.1 C.2.1 (C.2.2.1.trans hl.1.symm) C.2.2.2.2.2.1 (hts _ (hw _ (by simp))) (hts _ (hw _ (by simp))) (hts _ (hw _ (by simp))) (hts _ (hw _ (by simp))) hf (by rw [ab_sum]; exact hl0) h1 h2 hd (h p e s m args below meth c D q H locs ls C hZ S hl)
/-- the law's own script: a reference to it is the number z of no cell of the world -/
def ab_Zs9 (Y : ab_Y) (z b L : Nat) (xs : Nat → Int32) : (Nat → Nat) → State → Prop := fun q s => q z = b ∧ va_X b L xs s s.heap ∧ b < s.heap.size ∧ ¬ ab_A Y q s.heap.size b
theorem aw_sld {z b L : Nat} {xs : Nat → Int32} {i : Int32} (hd : decode (kB K) pc = .ok (.iaload, 1)) (hi : vp_in i L) (h : AW Y l (ab_Zs9 Y z b L xs) K d w (pc + 1) lv (.int (xs i.toNatClampNeg) :: st) M n1 n2 Q) : AW Y l (ab_Zs9 Y z b L xs) K d w pc lv (.int i :: .ref z :: st) M n1 n2 Q := by
  intro p e s m args below meth c D q H locs ls C hZ S hl
  obtain ⟨z1, z2, z3, z4⟩ := id hZ
  refine W.eq (g2 := F0 m pc ls (.int i :: .ref b :: st.map (ab_v q))) (by rw [← z1]; rfl) ?_
  exact va_sld C.1 C.2.1 z2 z3 z4 S.2.2 hi hd (h p e s m args below meth c D q H locs ls C hZ S hl)
theorem aw_slen {z b L : Nat} {xs : Nat → Int32} (hd : decode (kB K) pc = .ok (.arraylength, 1)) (h : AW Y l (ab_Zs9 Y z b L xs) K d w (pc + 1) lv (.int (nI L) :: st) M n1 n2 Q) : AW Y l (ab_Zs9 Y z b L xs) K d w pc lv (.ref z :: st) M n1 n2 Q := by
  intro p e s m args below meth c D q H locs ls C hZ S hl
  obtain ⟨z1, z2, z3, z4⟩ := id hZ
  refine W.eq (g2 := F0 m pc ls (.ref b :: st.map (ab_v q))) (by rw [← z1]; rfl) ?_
  exact va_slen C.1 C.2.1 z2 z3 z4 S.2.2 hd (h p e s m args below meth c D q H locs ls C hZ S hl)
end AT
