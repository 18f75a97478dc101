/-! the world's tables are as they must be -/
theorem sys_good : ∀ w ∈ sysW, (w.onTables && w.keeps) = true ∨ ∃ ty, w = .arrayClass ty := fun w h => good_of_word (List.mem_filter.mp h).2
theorem sys_lays : ∀ (ci : Nat) (r : vw_C), sysC[ci]? = some r → ∀ w ∈ u_ws r.1 r.2.1 r.2.2, w ∈ lw_tbl ∧ goodWord w = true := by
  intro ci r hr
  match ci, hr with
  | 0, hr => cases hr; decide +kernel
  | 1, hr => cases hr; decide +kernel
  | 2, hr => cases hr; decide +kernel
  | 3, hr => cases hr; decide +kernel
  | 4, hr => cases hr; decide +kernel
  | 5, hr => cases hr; decide +kernel
  | 6, hr => cases hr; decide +kernel
  | k + 7, hr => simp [sysC] at hr
theorem sys_ok : ab_ok sys := by
  refine ⟨fun ci r hr => ⟨fun w hw => List.mem_filter.mpr (sys_lays ci r hr w hw), ?_⟩, sys_good⟩
  match ci, hr with
  | 0, hr => cases hr; exact ⟨by decide +kernel, by decide +kernel⟩
  | 1, hr => cases hr; exact ⟨by decide +kernel, by decide +kernel⟩
  | 2, hr => cases hr; exact ⟨by decide +kernel, by decide +kernel⟩
  | 3, hr => cases hr; exact ⟨by decide +kernel, by decide +kernel⟩
  | 4, hr => cases hr; exact ⟨by decide +kernel, by decide +kernel⟩
  | 5, hr => cases hr; exact ⟨by decide +kernel, by decide +kernel⟩
  | 6, hr => cases hr; exact ⟨by decide +kernel, by decide +kernel⟩
  | k + 7, hr => exact absurd (show sysC[k + 7]? = some r from hr) (by simp [sysC])
/-- the rows of the two grids -/
theorem L_words {i : Nat} (h : i < 12) : (yL sys)[yR sys 2 i]? = some (1, 24, 0) := by
  have : ∀ i, i < 12 → sysL[3 + i]? = some (1, 24, 0) := by decide +kernel
  exact this i h
theorem L_tf {i : Nat} (h : i < 24) : (yL sys)[yR sys 23 i]? = some (1, 12, 0) := by
  have : ∀ i, i < 24 → sysL[24 + i]? = some (1, 12, 0) := by decide +kernel
  exact this i h
