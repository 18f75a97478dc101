/-! what the law's start says of the tables -/
def lw_flat : List Cond := flatC (Jvm.Cond.and given_1 narrow_1)
theorem lf_aoa : Cond.arrayOver (.array .int) ∈ lw_tbl := by decide +kernel
theorem lf_bcN : ∀ r ∈ bcNs, Cond.methodLinkNest r.1 r.2.1 r.2.2.1 r.2.2.2 ∈ lw_tbl := by decide +kernel
theorem lf_sysN : ∀ r ∈ sysN, Cond.methodLinkNest r.1 r.2.1 r.2.2.1 r.2.2.2 ∈ lw_tbl := by decide +kernel
theorem lf_D : ∀ y ∈ sysD, Cond.declares y ∈ lw_tbl := by decide +kernel
theorem lf_Ca : ∀ r ∈ sysCa, Cond.castable r.1 r.2 ∈ lw_tbl := by decide +kernel
theorem lf_Nc : ∀ r ∈ sysNc, Cond.not (.castable r.1 r.2) ∈ lw_flat := by decide +kernel
theorem lf_S : ∀ r ∈ sysS, Cond.stringRef r.1 r.2.1 r.2.2 ∈ lw_tbl := by decide +kernel
theorem lf_u1 : Cond.laysStatic Bundle.tN "UNASSIGNED_STACK" Bundle.steD ∈ lw_tbl := by decide +kernel
theorem lf_u2 : Cond.isRef (.static Bundle.tN "UNASSIGNED_STACK" Bundle.steD) ∈ lw_flat := by decide +kernel
theorem lf_v1 : Cond.laysStatic Bundle.tN "SUPPRESSED_SENTINEL" Bundle.listD ∈ lw_tbl := by decide +kernel
theorem lf_v2 : Cond.isRef (.static Bundle.tN "SUPPRESSED_SENTINEL" Bundle.listD) ∈ lw_flat := by decide +kernel
theorem lf_i : Cond.initialized Bundle.tN ∈ lw_tbl := by decide +kernel
theorem lw_str {A : Array Value} {s : State} {own tx : String} {k : Nat} (h : (Cond.stringRef own k tx).before A s = true) : ∃ a, vk_R own k tx a s := by
  have hc : ∃ cur, s.vm.findClass own = some cur := by
    cases hf : s.vm.findClass own with
    | none =>
      have h1 := h
      simp [Cond.before, Cond.holds, Cond.value, hf] at h1
    | some c => exact ⟨c, rfl⟩
  obtain ⟨cur, hcur⟩ := hc
  obtain ⟨-, -, -, a, -, -, -, -, -, he⟩ := Cond.stringRef_spec hcur h
  exact ⟨a, vk_R.of h he⟩
theorem lw_facts {s : State} {A0 : Array Value} (hts : ∀ w ∈ lw_tbl, w.before A0 s = true) (hgv : (Jvm.Cond.and given_1 narrow_1).before A0 s = true) : bcN s ∧ (∀ r ∈ yN sys, va_Nw (.methodLinkNest r.1 r.2.1 r.2.2.1 r.2.2.2) s) ∧ ab_X sys s ∧ ∀ A : Nat → Prop, (∀ a : Nat, a < s.heap.size → ¬ A a) → ab_Zs A s s.heap := by
  have hf : ∀ w ∈ lw_flat, w.before A0 s = true := flat_of_before _ hgv
  exact ⟨⟨hts _ lf_aoa, fun r hr => va_Nw.of rfl (hts _ (lf_bcN r hr))⟩, fun r hr => va_Nw.of rfl (hts _ (lf_sysN r hr)), ⟨fun y hy => va_Nw.of rfl (hts _ (lf_D y hy)), fun r hr => va_Nw.of rfl (hts _ (lf_Ca r hr)), fun r hr => va_Nc.of (hf _ (lf_Nc r hr)), fun r hr => lw_str (hts _ (lf_S r hr))⟩, fun A hA => ⟨vx_Zqof (hts _ lf_u1) (hts _ lf_i) (hf _ lf_u2) hA, vx_Zqof (hts _ lf_v1) (hts _ lf_i) (hf _ lf_v2) hA⟩⟩
