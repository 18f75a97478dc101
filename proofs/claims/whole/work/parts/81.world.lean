/-! the world at the loop's start: nothing is in it yet (rows laid by gen/m23.py) -/
theorem bc_arr {args : Array Value} {s : State} {ty : FieldType} (h : (Cond.arrayClass ty).before args s = true) : ∃ cA : ClassId, ArrOfT s cA ty ∧ s.vm.findClass ("[" ++ ty.toString) = some cA := by
  obtain ⟨c, k, comp, h1, h2, h3⟩ := Cond.arrayClass_spec h
  exact ⟨c, fun n z => ⟨fun k h => (by cases h), k, h2, comp, h3⟩, h1⟩
theorem bc_arrA {s : State} (h : va_AOA .int s) : ∃ cA : ClassId, ArrOfT s cA (.array .int) ∧ s.vm.findClass ("[" ++ (FieldType.array .int).toString) = some cA := by
  have h1 : (Cond.arrayOver (.array .int)).before #[] s = true := h
  simp only [Cond.before, Cond.holds, Cond.value, beq_iff_eq] at h1
  cases hc : s.vm.findClass (FieldType.array .int).toString with
  | none => simp [hc] at h1
  | some comp =>
    simp only [hc, Option.bind_some, Option.bind_eq_some_iff, Option.map_eq_some_iff] at h1
    obtain ⟨c, hi, k, hk, hb⟩ := h1
    cases hkind : k.kind with
    | array component ty =>
      rw [hkind] at hb
      simp at hb
      exact ⟨c, fun n z => ⟨fun k h => (by cases h), k, hk, component, by rw [hkind, hb.1]⟩, hb.2⟩
    | _ => rw [hkind] at hb; simp at hb
theorem bcD {args : Array Value} {s : State} (hts : ∀ w ∈ sysW, w.before args s = true) (ho : va_AOA .int s) : ∃ D : ab_D, va_K D.1 sysC (ab_T D) s := by
  obtain ⟨c0, i0, k0⟩ := u_known (C := "BeliefForge") (T := F_BF) (N := 5) (n := 5) hts (sys_ok.1 0 ("BeliefForge", F_BF, 5) rfl).1 (hts (.instantiable "BeliefForge" 5) (by decide +kernel))
  obtain ⟨c1, i1, k1⟩ := u_known (C := "BeliefForge$Texts") (T := F_TX) (N := 5) (n := 5) hts (sys_ok.1 1 ("BeliefForge$Texts", F_TX, 5) rfl).1 (hts (.instantiable "BeliefForge$Texts" 5) (by decide +kernel))
  obtain ⟨c2, i2, k2⟩ := u_known (C := "BeliefForge$Query") (T := F_QU) (N := 7) (n := 7) hts (sys_ok.1 2 ("BeliefForge$Query", F_QU, 7) rfl).1 (hts (.instantiable "BeliefForge$Query" 7) (by decide +kernel))
  obtain ⟨c3, i3, k3⟩ := u_known (C := "BeliefForge$Network") (T := F_NE) (N := 7) (n := 7) hts (sys_ok.1 3 ("BeliefForge$Network", F_NE, 7) rfl).1 (hts (.instantiable "BeliefForge$Network" 7) (by decide +kernel))
  obtain ⟨c4, i4, k4⟩ := u_known (C := "BeliefForge$Ranking") (T := F_RA) (N := 4) (n := 4) hts (sys_ok.1 4 ("BeliefForge$Ranking", F_RA, 4) rfl).1 (hts (.instantiable "BeliefForge$Ranking" 4) (by decide +kernel))
  obtain ⟨c5, i5, k5⟩ := u_known (C := "BeliefForge$Maker") (T := F_MK) (N := 6) (n := 6) hts (sys_ok.1 5 ("BeliefForge$Maker", F_MK, 6) rfl).1 (hts (.instantiable "BeliefForge$Maker" 6) (by decide +kernel))
  obtain ⟨c6, i6, k6⟩ := u_known (C := "BeliefForgeModel") (T := F_MO) (N := 20) (n := 20) hts (sys_ok.1 6 ("BeliefForgeModel", F_MO, 20) rfl).1 (hts (.instantiable "BeliefForgeModel" 20) (by decide +kernel))
  obtain ⟨aI, hI1, hI2⟩ := bc_arr (hts _ aI_w)
  obtain ⟨aD, hD1, hD2⟩ := bc_arr (hts _ aD_w)
  obtain ⟨aA, hA1, hA2⟩ := bc_arrA ho
  obtain ⟨aJ, hJ1, hJ2⟩ := bc_arr (hts _ aJ_w)
  refine ⟨((fun k => match k with | 0 => c0 | 1 => c1 | 2 => c2 | 3 => c3 | 4 => c4 | 5 => c5 | _ => c6, fun k => match k with | 0 => i0 | 1 => i1 | 2 => i2 | 3 => i3 | 4 => i4 | 5 => i5 | _ => i6), aI, aD, aA, aJ), fun c r hr => ?_, fun k r hk => ?_⟩
  · match c, hr with
    | 0, hr => cases hr; exact k0
    | 1, hr => cases hr; exact k1
    | 2, hr => cases hr; exact k2
    | 3, hr => cases hr; exact k3
    | 4, hr => cases hr; exact k4
    | 5, hr => cases hr; exact k5
    | 6, hr => cases hr; exact k6
    | k + 7, hr => exact absurd (show sysC[k + 7]? = some r from hr) (by simp [sysC])
  · match k, hk with
    | 0, hk => cases hk; exact ⟨hI1, hI2⟩
    | 1, hk => cases hk; exact ⟨hD1, hD2⟩
    | 2, hk => cases hk; exact ⟨hA1, hA2⟩
    | 3, hk => cases hk; exact ⟨hJ1, hJ2⟩
    | k + 4, hk => exact absurd hk (by simp [ab_T])
def M0 : ab_M := (fun a => match a with
  | 17 => fun i => match i with
    | 5 => 1
    | _ => 0
  | _ => fun _ => 0, fun a => match a with
  | 22 => fun i => match i with
    | 6 => 4611686018427387904
    | _ => 0
  | 57 => fun i => match i with
    | 10 => 4611686018427387904
    | _ => 0
  | _ => fun _ => 0, fun _ _ => 0)
def D0 : Dg := (0, fun _ => 0, fun _ _ => 0, fun _ => 0)
def T0 : Qg := (0, fun _ => 0, fun _ => 0, fun _ => 0)
def S0 : Sg := (0, 4611686018427387904)
def R0 : Rg := (0, 0, fun _ => 0, fun _ => 0)
theorem INV0 : INV D0 T0 S0 R0 M0 := by
  refine ⟨⟨⟨by decide, fun d => Nat.zero_le _, fun d _ => rfl, fun d p => by show 0 < 16; omega, fun d => Nat.zero_le _⟩, ⟨by decide, fun t ht => absurd ht (Nat.not_lt_zero t), fun t ht => absurd ht (Nat.not_lt_zero t), fun t ht => absurd ht (Nat.not_lt_zero t)⟩, ⟨by decide, 16, by decide, by decide, fun h => absurd h (by decide), by decide +kernel⟩, ⟨by decide, by decide, fun i hi => absurd hi (Nat.not_lt_zero i)⟩⟩, ⟨?_, ?_, ⟨by decide +kernel, rfl⟩, ?_⟩, ⟨?_, ?_, ⟨by decide +kernel, rfl⟩, ?_⟩⟩
  · exact ⟨by decide +kernel, by decide +kernel, by decide +kernel, fun d p _ hp => absurd hp (Nat.not_lt_zero p), fun d hd => absurd hd (Nat.not_lt_zero d)⟩
  · exact ⟨by decide +kernel, fun t ht => absurd ht (Nat.not_lt_zero t), fun t ht => absurd ht (Nat.not_lt_zero t), fun t ht => absurd ht (Nat.not_lt_zero t), by decide +kernel, by decide +kernel, fun _ t ht => absurd ht (Nat.not_lt_zero t)⟩
  · exact ⟨by decide +kernel, by decide +kernel, fun t ht => absurd ht (Nat.not_lt_zero t), fun t ht => absurd ht (Nat.not_lt_zero t)⟩
  · exact ⟨by decide +kernel, by decide +kernel, fun d p _ hp => absurd hp (Nat.not_lt_zero p), fun d hd => absurd hd (Nat.not_lt_zero d)⟩
  · exact ⟨by decide +kernel, fun t ht => absurd ht (Nat.not_lt_zero t), fun t ht => absurd ht (Nat.not_lt_zero t), fun t ht => absurd ht (Nat.not_lt_zero t)⟩
  · exact ⟨by decide +kernel, by decide +kernel, fun t ht => absurd ht (Nat.not_lt_zero t), fun t ht => absurd ht (Nat.not_lt_zero t)⟩
theorem eA_at {D : ab_D} {a N : Nat} {f g : Nat → Nat} {H : Heap} (he : ∀ i, i < N → f i = g i) (h : va_at D.1 sysC (a, eA D N f) H) : va_at D.1 sysC (a, eA D N g) H := by
  show H[a]? = some (arrV D.2.2.2.1 N (fun j => va_rf (some (g j))))
  have h2 : H[a]? = some (arrV D.2.2.2.1 N (fun j => va_rf (some (f j)))) := h
  rw [h2]
  exact congrArg some (arrV_eq (fun i hi => by rw [he i hi]))
set_option maxRecDepth 40000 in
set_option maxHeartbeats 4000000 in
theorem bc_world {D : ab_D} {A : Nat → Prop} {H0 H : Heap} {locs : List Loc} {q0 qT aW aL aT qQ k1 k2 k3 k4 qN aF e1 e2 qR d1 d2 qM m1 m2 m3 qO o1 o2 o3 o4 o5 o6 o7 o8 o9 o10 o11 z1 z2 : Nat} {rW rF : Nat → Nat} (b : Nat) (hw : bcw D A H0 ((((G_BF D q0 ((qT, (aW, (rW, (aL, aT)))), ((qQ, (k1, (k2, (k3, k4)))), ((qN, (aF, (rF, (e1, e2)))), ((qR, (d1, d2)), (qM, (m1, (m2, m3)))))))) ++ G_MO D qO (o1, o2, o3, o4, o5, o6, o7, o8, o9, o10, o11)) ++ [(z1, eJ D 1)]) ++ [(z2, eD D 1)]) H locs) :
    ∃ q : Nat → Nat, q 0 = q0 ∧ q 57 = qO ∧ q 69 = z1 ∧ q 70 = z2 ∧ q 71 = b ∧ va_P D.1 sysC (ab_W sys D q M0) H ∧ va_D A (ab_W sys D q M0) := by
  obtain ⟨q, hq⟩ : ∃ q : Nat → Nat, q = fun id => [q0, qT, aW, rW 0, rW 1, rW 2, rW 3, rW 4, rW 5, rW 6, rW 7, rW 8, rW 9, rW 10, rW 11, aL, aT, qQ, k1, k2, k3, k4, qN, aF, rF 0, rF 1, rF 2, rF 3, rF 4, rF 5, rF 6, rF 7, rF 8, rF 9, rF 10, rF 11, rF 12, rF 13, rF 14, rF 15, rF 16, rF 17, rF 18, rF 19, rF 20, rF 21, rF 22, rF 23, e1, e2, qR, d1, d2, qM, m1, m2, m3, qO, o1, o2, o3, o4, o5, o6, o7, o8, o9, o10, o11, z1, z2, b].getD id 0 := ⟨_, rfl⟩
  have hP := hw.1
  have hD := hw.2.1
  have w1 : ∀ i, i < 12 → rW i = q (yR sys 2 i) := by
    intro i hi
    rcases (show i = 0 ∨ i = 1 ∨ i = 2 ∨ i = 3 ∨ i = 4 ∨ i = 5 ∨ i = 6 ∨ i = 7 ∨ i = 8 ∨ i = 9 ∨ i = 10 ∨ i = 11 by omega) with rfl | rfl | rfl | rfl | rfl | rfl | rfl | rfl | rfl | rfl | rfl | rfl <;> (rw [hq]; rfl)
  have w2 : ∀ i, i < 24 → rF i = q (yR sys 23 i) := by
    intro i hi
    rcases (show i = 0 ∨ i = 1 ∨ i = 2 ∨ i = 3 ∨ i = 4 ∨ i = 5 ∨ i = 6 ∨ i = 7 ∨ i = 8 ∨ i = 9 ∨ i = 10 ∨ i = 11 ∨ i = 12 ∨ i = 13 ∨ i = 14 ∨ i = 15 ∨ i = 16 ∨ i = 17 ∨ i = 18 ∨ i = 19 ∨ i = 20 ∨ i = 21 ∨ i = 22 ∨ i = 23 by omega) with rfl | rfl | rfl | rfl | rfl | rfl | rfl | rfl | rfl | rfl | rfl | rfl | rfl | rfl | rfl | rfl | rfl | rfl | rfl | rfl | rfl | rfl | rfl | rfl <;> (rw [hq]; rfl)
  have hP1 := va_P.set (p := 2) (a := aW) (e0 := eA D 12 rW) (e := eA D 12 (fun i => q (yR sys 2 i))) hP hD rfl (eA_at w1 (hP 2 _ rfl)) (fun _ _ => rfl)
  have hD1 := va_D.set (p := 2) (a := aW) (e0 := eA D 12 rW) (e := eA D 12 (fun i => q (yR sys 2 i))) hD rfl
  have hP2 := va_P.set (p := 23) (a := aF) (e0 := eA D 24 rF) (e := eA D 24 (fun i => q (yR sys 23 i))) hP1 hD1 rfl (eA_at w2 (hP 23 _ rfl)) (fun _ _ => rfl)
  have hD2 := va_D.set (p := 23) (a := aF) (e0 := eA D 24 rF) (e := eA D 24 (fun i => q (yR sys 23 i))) hD1 rfl
  refine ⟨q, by rw [hq]; rfl, by rw [hq]; rfl, by rw [hq]; rfl, by rw [hq]; rfl, by rw [hq]; rfl, ?_, ?_⟩
  · subst hq; exact hP2
  · subst hq; exact hD2
