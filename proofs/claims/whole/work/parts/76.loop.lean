/-! the law's loop (rows laid by gen/m21.py) -/
set_option maxRecDepth 8000 in
theorem L_loop {l : Launch} {b L : Nat} {xs : Nat → Int32} {Q : ab_O → ab_M → Prop} (hl : l.stackTraces = false) (hL : L ≤ 2048) (hQ : ∀ M, Q (.inl (some (.int (nI 1)))) M) : ∀ (mm it : Nat) (D : Dg) (T : Qg) (S : Sg) (R : Rg) (M : ab_M) (n1 n2 : Nat), 600 - it = mm → it ≤ 512 → n1 + (512 - it) ≤ 601024 → n2 + 6 * (512 - it) ≤ 7293034 → INV D T S R M → AW sys l (ab_Zs9 sys 71 b L xs) k_LA_law 9 207 28 [(5, .int (nI (4 * it))), (0, .ref (71)), (1, .ref (0)), (2, .ref (57)), (3, .ref (69)), (4, .ref (70))] [] M n1 n2 Q := by
  intro mm
  induction mm using Nat.strongRecOn with
  | ind mm ih =>
    intro it D T S R M n1 n2 hk hit h1 h2 hI
    refine aw_iload d_LA_law_28 0 rfl ?_
    refine aw_aload_n d_LA_law_30 rfl 1 rfl ?_
    refine aw_slen d_LA_law_31 ?_
    refine aw_iconst (v := nI 4) d_LA_law_32 (by decide) ?_
    refine aw_isub d_LA_law_33 ?_
    refine at_gt (nI_toInt (by omega)) (sub4_int (by omega)) (tgt := 963) d_LA_law_34 (by decide) (fun c1 => ?_) (fun c1 => ?_)
    · refine aw_iconst (v := nI 1) d_LA_law_963 (by decide) ?_
      exact aw_zret (Or.inr rfl) d_LA_law_964 rfl (by show n1 ≤ 601024; omega) (by show n2 ≤ 7293034; omega) (hQ M)
    · have hi : 4 * it + 4 ≤ L := by omega
      have nxt : ∀ (D : Dg) (T : Qg) (S : Sg) (R : Rg) (M' : ab_M), INV D T S R M' → AW sys l (ab_Zs9 sys 71 b L xs) k_LA_law 9 207 957 [(5, .int (nI (4 * it))), (0, .ref (71)), (1, .ref (0)), (2, .ref (57)), (3, .ref (69)), (4, .ref (70))] [] M' (n1 + 1) (n2 + 6) Q := by
        intro D T S R M' hI'
        refine aw_iinc (v := nI (4 * (it + 1))) (lv' := [(5, .int (nI (4 * (it + 1)))), (0, .ref (71)), (1, .ref (0)), (2, .ref (57)), (3, .ref (69)), (4, .ref (70))]) d_LA_law_957 (j := 0) rfl (by rw [show 4 * (it + 1) = 4 * it + 4 by omega]; exact nI_add (4 * it) 4) (by decide) rfl ?_
        refine aw_goto (tgt := 28) d_LA_law_960 (by decide) ?_
        exact ih _ (by omega) (it + 1) D T S R M' (n1 + 1) (n2 + 6) rfl (by omega) (by omega) (by omega) hI'
      refine aw_aload_n d_LA_law_37 rfl 1 rfl ?_
      refine aw_iload d_LA_law_38 0 rfl ?_
      refine aw_sld d_LA_law_40 (pk_in (4 * it) L (by omega)) ?_
      refine aw_bipush (v := nI 15) d_LA_law_41 (by decide) ?_
      refine aw_iand d_LA_law_43 ?_
      obtain ⟨j, hj, ej⟩ := pk_andE (xs (nI (4 * it)).toNatClampNeg) (m := nI 15) 4 (by decide)
      refine aw_eqi (nI j) ej ?_
      by_cases h0 : j = 0
      · refine aw_tabN 116 (by omega) d_LA_law_44 (by rw [h0]; exact Or.inr ⟨_, by decide, by decide, rfl, by decide⟩) ?_
        exact LC_document hl hI hi hL (by omega) (by omega) nxt
      by_cases h1 : j = 1
      · refine aw_tabN 172 (by omega) d_LA_law_44 (by rw [h1]; exact Or.inr ⟨_, by decide, by decide, rfl, by decide⟩) ?_
        exact LC_word hl hI hi hL (by omega) (by omega) nxt
      by_cases h2 : j = 2
      · refine aw_tabN 228 (by omega) d_LA_law_44 (by rw [h2]; exact Or.inr ⟨_, by decide, by decide, rfl, by decide⟩) ?_
        exact LC_smooth hl hI hi hL (by omega) (by omega) nxt
      by_cases h3 : j = 3
      · refine aw_tabN 306 (by omega) d_LA_law_44 (by rw [h3]; exact Or.inr ⟨_, by decide, by decide, rfl, by decide⟩) ?_
        exact LC_token hl hI hi hL (by omega) (by omega) nxt
      by_cases h4 : j = 4
      · refine aw_tabN 396 (by omega) d_LA_law_44 (by rw [h4]; exact Or.inr ⟨_, by decide, by decide, rfl, by decide⟩) ?_
        exact LC_clear hl hI hi hL (by omega) (by omega) nxt
      by_cases h5 : j = 5
      · refine aw_tabN 409 (by omega) d_LA_law_44 (by rw [h5]; exact Or.inr ⟨_, by decide, by decide, rfl, by decide⟩) ?_
        exact LC_wanted hl hI hi hL (by omega) (by omega) nxt
      by_cases h6 : j = 6
      · refine aw_tabN 422 (by omega) d_LA_law_44 (by rw [h6]; exact Or.inr ⟨_, by decide, by decide, rfl, by decide⟩) ?_
        exact LC_belief hl hI hi hL (by omega) (by omega) nxt
      by_cases h7 : j = 7
      · refine aw_tabN 499 (by omega) d_LA_law_44 (by rw [h7]; exact Or.inr ⟨_, by decide, by decide, rfl, by decide⟩) ?_
        exact LC_hits hl hI hi hL (by omega) (by omega) nxt
      by_cases h8 : j = 8
      · refine aw_tabN 567 (by omega) d_LA_law_44 (by rw [h8]; exact Or.inr ⟨_, by decide, by decide, rfl, by decide⟩) ?_
        exact LC_search hl hI hi hL (by omega) (by omega) nxt
      by_cases h9 : j = 9
      · refine aw_tabN 623 (by omega) d_LA_law_44 (by rw [h9]; exact Or.inr ⟨_, by decide, by decide, rfl, by decide⟩) ?_
        exact LC_found hl hI hi hL (by omega) (by omega) nxt
      by_cases h10 : j = 10
      · refine aw_tabN 679 (by omega) d_LA_law_44 (by rw [h10]; exact Or.inr ⟨_, by decide, by decide, rfl, by decide⟩) ?_
        exact LC_score hl hI hi hL (by omega) (by omega) nxt
      by_cases h11 : j = 11
      · refine aw_tabN 756 (by omega) d_LA_law_44 (by rw [h11]; exact Or.inr ⟨_, by decide, by decide, rfl, by decide⟩) ?_
        exact LC_model hl hI hi hL (by omega) (by omega) nxt
      by_cases h12 : j = 12
      · refine aw_tabN 812 (by omega) d_LA_law_44 (by rw [h12]; exact Or.inr ⟨_, by decide, by decide, rfl, by decide⟩) ?_
        exact LC_told hl hI hi hL (by omega) (by omega) nxt
      by_cases h13 : j = 13
      · refine aw_tabN 901 (by omega) d_LA_law_44 (by rw [h13]; exact Or.inr ⟨_, by decide, by decide, rfl, by decide⟩) ?_
        exact LC_count hl hI hi hL (by omega) (by omega) nxt
      refine aw_tabN 957 (by omega) d_LA_law_44 (Or.inl ⟨by omega, by decide⟩) ?_
      exact aw_widen (k1 := n1 + 1) (k2 := n2 + 6) (by omega) (by omega) (nxt D T S R M hI)
