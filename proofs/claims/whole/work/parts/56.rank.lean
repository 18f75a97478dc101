/-! the RANKING (rows laid by gen/m10.py) -/
def rpos (b : UInt64) (f : Nat → UInt64) : Nat → Nat
  | 0 => 0
  | k + 1 => if fz (f k) < fz b then rpos b f k else k + 1
theorem rpos_le (b : UInt64) (f : Nat → UInt64) : ∀ k, rpos b f k ≤ k
  | 0 => Nat.le_refl _
  | k + 1 => by have := rpos_le b f k; simp only [rpos]; split <;> omega
def insF {α : Type} (f : Nat → α) (p : Nat) (x : α) : Nat → α := fun i => if i < p then f i else if i = p then x else f (i - 1)
def insR (R : Rg) (d : Nat) (b : UInt64) : Rg := (rn R + 1, ro R, insF (rd R) (rpos b (rb R) (rn R)) d, insF (rb R) (rpos b (rb R) (rn R)) b)
theorem insF_lo {α : Type} {f : Nat → α} {p i : Nat} {x : α} (h : i < p) : insF f p x i = f i := if_pos h
theorem insF_at {α : Type} {f : Nat → α} {p : Nat} {x : α} : insF f p x p = x := by unfold insF; rw [if_neg (by omega), if_pos rfl]
theorem insF_hi {α : Type} {f : Nat → α} {p i : Nat} {x : α} (h : p < i) : insF f p x i = f (i - 1) := by simp only [insF]; rw [if_neg (by omega), if_neg (by omega)]
/-- cells outside stay as they are -/
def frO (lo hi : Nat) (M M' : ab_M) : Prop := ∀ a i, a < lo ∨ hi < a → M'.1 a i = M.1 a i ∧ M'.2.1 a i = M.2.1 a i ∧ M'.2.2 a i = M.2.2 a i
def frP (o k ai ad : Nat) (M M' : ab_M) : Prop := (∀ a i, a ≠ ai → (a ≠ o ∨ i ≠ k) → M'.1 a i = M.1 a i) ∧ (∀ a i, a ≠ ad → M'.2.1 a i = M.2.1 a i) ∧ M'.2.2 = M.2.2
theorem ins_arr {α : Type} {g f : Nat → α} {p n : Nat} {x : α} (h1 : ∀ i, i < p → g i = f i) (h2 : ∀ i, p < i → i ≤ n → g i = f (i - 1)) (hx : g p = x) : ∀ i, i < n + 1 → g i = insF f p x i := by
  intro i hi
  rcases Nat.lt_trichotomy i p with h | h | h
  · rw [insF_lo h, h1 i h]
  · subst h; rw [insF_at, hx]
  · rw [insF_hi h, h2 i h (by omega)]

set_option maxRecDepth 4000 in
theorem A_put_loop {l : Launch} {M : ab_M} {Q : ab_O → ab_M → Prop} {R : Rg} {d : Nat} {b : UInt64} (hn : rn R < 12) (hr : iRC R M) (hb : fF b) (hf9 : ∀ i, i < rn R → fF (rb R i)) (hQ : ∀ M', frP 50 2 51 52 M M' → iRC (insR R d b) M' → Q (.inl none) M') : ∀ (mm : Nat) (p0 : Nat) (M1 : ab_M), p0 = mm → (ha : p0 ≤ rn R) → (hf : frP 50 2 51 52 M M1) → (h51 : ∀ i, i < p0 → M1.1 51 i = nI (rd R i)) → (h51' : ∀ i, p0 < i → i ≤ rn R → M1.1 51 i = nI (rd R (i - 1))) → (h52 : ∀ i, i < p0 → M1.2.1 52 i = rb R i) → (h52' : ∀ i, p0 < i → i ≤ rn R → M1.2.1 52 i = rb R (i - 1)) → (hp : rpos b (rb R) (rn R) = rpos b (rb R) p0) → (hz : M1.1 50 2 = nI (rn R)) → AW sys l ab_Zt k_RA_put 0 0 6 [(4, .int (nI (p0))), (0, .ref (50)), (1, .int (nI (d))), (2, .double (b))] [] M1 0 0 Q := by
  intro mm
  induction mm using Nat.strongRecOn with
  | ind mm ih =>
    intro p0 M1 hk ha hf h51 h51' h52 h52' hp hz
    refine aw_iload d_RA_put_6 0 rfl ?_
    refine aw_if_leN (tgt := 63) d_RA_put_8 (by decide) (by omega) (fun c1 => ?_) (fun c1 => ?_)
    · skip
      refine aw_aload_n d_RA_put_63 rfl 1 rfl ?_
      refine aw_get (ic := 50) (ci := 4) (k := 0) (v := .ref 51) d_RA_put_64 rfl rfl (by decide) rfl mw_151 rfl ?_
      refine aw_iload d_RA_put_67 0 rfl ?_
      refine aw_iload_n d_RA_put_69 rfl 2 rfl ?_
      refine aw_iastN d_RA_put_70 rfl (by decide) (by omega) ?_
      refine aw_aload_n d_RA_put_71 rfl 1 rfl ?_
      refine aw_get (ic := 50) (ci := 4) (k := 1) (v := .ref 52) d_RA_put_72 rfl rfl (by decide) rfl mw_152 rfl ?_
      refine aw_iload d_RA_put_75 0 rfl ?_
      refine aw_dload_n d_RA_put_77 rfl 3 rfl ?_
      refine aw_dastN d_RA_put_78 rfl (by decide) (by omega) ?_
      refine aw_aload_n d_RA_put_79 rfl 1 rfl ?_
      refine aw_dup d_RA_put_80 rfl ?_
      refine aw_get (ic := 50) (ci := 4) (k := 2) d_RA_put_81 rfl rfl (by decide) rfl mw_153 rfl ?_
      refine aw_eqi (nI (rn R)) (by (try simp only [sD_1]); rw [sI_ne (by omega)]; exact hz) ?_
      refine aw_iconst (v := nI 1) d_RA_put_84 (by decide) ?_
      refine aw_iaddN d_RA_put_85 ?_
      refine aw_putI (ic := 50) (ci := 4) (k := 2) d_RA_put_86 rfl rfl (by decide) rfl rfl rfl mw_153 ?_
      refine aw_vret d_RA_put_89 rfl (by decide) (by decide) ?_
      have ep : rpos b (rb R) (rn R) = p0 := by rw [hp, show p0 = 0 by omega]; rfl
      refine hQ _ ⟨fun a i h1 h2 => ?_, fun a i h1 => ?_, ?_⟩ ⟨?_, ?_, ?_, ?_⟩
      · rw [sI_ne (by omega)]; (try simp only [sD_1]); rw [sI_ne (by omega)]; exact hf.1 a i h1 h2
      · show (ab_sD _ _ _ _).2.1 a i = _; rw [sD_ne (by omega)]; exact hf.2.1 a i h1
      · exact hf.2.2
      · rw [sI_hit]; rfl
      · rw [sI_ne (by omega)]; (try simp only [sD_1]); rw [sI_ne (by omega)]; exact (hf.1 _ _ (by omega) (by omega)).trans hr.2.1
      · intro i hi
        rw [show rd (insR R d b) = insF (rd R) p0 d by show insF _ _ _ = _; rw [ep]]
        rw [sI_ne (by omega)]; (try simp only [sD_1])
        rcases Nat.lt_trichotomy i p0 with h | h | h
        · rw [insF_lo h, sI_ne (by omega)]; exact h51 i h
        · subst h; rw [insF_at, sI_hit]
        · rw [insF_hi h, sI_ne (by omega)]; exact h51' i h (by have : i < rn R + 1 := hi; omega)
      · intro i hi
        rw [show rb (insR R d b) = insF (rb R) p0 b by show insF _ _ _ = _; rw [ep]]
        show (ab_sD _ _ _ _).2.1 52 i = _
        rcases Nat.lt_trichotomy i p0 with h | h | h
        · rw [insF_lo h, sD_ne (by omega)]; exact h52 i h
        · subst h; rw [insF_at, sD_hit]
        · rw [insF_hi h, sD_ne (by omega)]; exact h52' i h (by have : i < rn R + 1 := hi; omega)
    · skip
      refine aw_aload_n d_RA_put_11 rfl 1 rfl ?_
      refine aw_get (ic := 50) (ci := 4) (k := 1) (v := .ref 52) d_RA_put_12 rfl rfl (by decide) rfl mw_152 rfl ?_
      refine aw_iload d_RA_put_15 0 rfl ?_
      refine aw_iconst (v := nI 1) d_RA_put_17 (by decide) ?_
      refine aw_isubN d_RA_put_18 (by omega) ?_
      refine aw_daldN d_RA_put_19 rfl (by decide) (by omega) ?_
      refine aw_eqd (rb R (p0 - 1)) (h52 (p0 - 1) (by omega)) ?_
      refine aw_dload_n d_RA_put_20 rfl 3 rfl ?_
      refine aw_dcmp d_RA_put_21 ?_
      refine ad_ge (hf9 _ (by omega)).n hb.n d_RA_put_22 (tgt := 63) (by decide) (fun c2 => ?_) (fun c2 => ?_)
      · skip
        refine aw_aload_n d_RA_put_63 rfl 1 rfl ?_
        refine aw_get (ic := 50) (ci := 4) (k := 0) (v := .ref 51) d_RA_put_64 rfl rfl (by decide) rfl mw_151 rfl ?_
        refine aw_iload d_RA_put_67 0 rfl ?_
        refine aw_iload_n d_RA_put_69 rfl 2 rfl ?_
        refine aw_iastN d_RA_put_70 rfl (by decide) (by omega) ?_
        refine aw_aload_n d_RA_put_71 rfl 1 rfl ?_
        refine aw_get (ic := 50) (ci := 4) (k := 1) (v := .ref 52) d_RA_put_72 rfl rfl (by decide) rfl mw_152 rfl ?_
        refine aw_iload d_RA_put_75 0 rfl ?_
        refine aw_dload_n d_RA_put_77 rfl 3 rfl ?_
        refine aw_dastN d_RA_put_78 rfl (by decide) (by omega) ?_
        refine aw_aload_n d_RA_put_79 rfl 1 rfl ?_
        refine aw_dup d_RA_put_80 rfl ?_
        refine aw_get (ic := 50) (ci := 4) (k := 2) d_RA_put_81 rfl rfl (by decide) rfl mw_153 rfl ?_
        refine aw_eqi (nI (rn R)) (by (try simp only [sD_1]); rw [sI_ne (by omega)]; exact hz) ?_
        refine aw_iconst (v := nI 1) d_RA_put_84 (by decide) ?_
        refine aw_iaddN d_RA_put_85 ?_
        refine aw_putI (ic := 50) (ci := 4) (k := 2) d_RA_put_86 rfl rfl (by decide) rfl rfl rfl mw_153 ?_
        refine aw_vret d_RA_put_89 rfl (by decide) (by decide) ?_
        have ep : rpos b (rb R) (rn R) = p0 := by rw [hp]; obtain ⟨z, rfl⟩ : ∃ z, p0 = z + 1 := ⟨p0 - 1, by omega⟩; simp only [rpos]; rw [if_neg (by simp only [Nat.add_sub_cancel] at c2; omega)]
        refine hQ _ ⟨fun a i h1 h2 => ?_, fun a i h1 => ?_, ?_⟩ ⟨?_, ?_, ?_, ?_⟩
        · rw [sI_ne (by omega)]; (try simp only [sD_1]); rw [sI_ne (by omega)]; exact hf.1 a i h1 h2
        · show (ab_sD _ _ _ _).2.1 a i = _; rw [sD_ne (by omega)]; exact hf.2.1 a i h1
        · exact hf.2.2
        · rw [sI_hit]; rfl
        · rw [sI_ne (by omega)]; (try simp only [sD_1]); rw [sI_ne (by omega)]; exact (hf.1 _ _ (by omega) (by omega)).trans hr.2.1
        · intro i hi
          rw [show rd (insR R d b) = insF (rd R) p0 d by show insF _ _ _ = _; rw [ep]]
          rw [sI_ne (by omega)]; (try simp only [sD_1])
          rcases Nat.lt_trichotomy i p0 with h | h | h
          · rw [insF_lo h, sI_ne (by omega)]; exact h51 i h
          · subst h; rw [insF_at, sI_hit]
          · rw [insF_hi h, sI_ne (by omega)]; exact h51' i h (by have : i < rn R + 1 := hi; omega)
        · intro i hi
          rw [show rb (insR R d b) = insF (rb R) p0 b by show insF _ _ _ = _; rw [ep]]
          show (ab_sD _ _ _ _).2.1 52 i = _
          rcases Nat.lt_trichotomy i p0 with h | h | h
          · rw [insF_lo h, sD_ne (by omega)]; exact h52 i h
          · subst h; rw [insF_at, sD_hit]
          · rw [insF_hi h, sD_ne (by omega)]; exact h52' i h (by have : i < rn R + 1 := hi; omega)
      · skip
        refine aw_aload_n d_RA_put_25 rfl 1 rfl ?_
        refine aw_get (ic := 50) (ci := 4) (k := 0) (v := .ref 51) d_RA_put_26 rfl rfl (by decide) rfl mw_151 rfl ?_
        refine aw_iload d_RA_put_29 0 rfl ?_
        refine aw_aload_n d_RA_put_31 rfl 1 rfl ?_
        refine aw_get (ic := 50) (ci := 4) (k := 0) (v := .ref 51) d_RA_put_32 rfl rfl (by decide) rfl mw_151 rfl ?_
        refine aw_iload d_RA_put_35 0 rfl ?_
        refine aw_iconst (v := nI 1) d_RA_put_37 (by decide) ?_
        refine aw_isubN d_RA_put_38 (by omega) ?_
        refine aw_ialdN d_RA_put_39 rfl (by decide) (by omega) ?_
        refine aw_eqi (nI (rd R (p0 - 1))) (h51 (p0 - 1) (by omega)) ?_
        refine aw_iastN d_RA_put_40 rfl (by decide) (by omega) ?_
        refine aw_aload_n d_RA_put_41 rfl 1 rfl ?_
        refine aw_get (ic := 50) (ci := 4) (k := 1) (v := .ref 52) d_RA_put_42 rfl rfl (by decide) rfl mw_152 rfl ?_
        refine aw_iload d_RA_put_45 0 rfl ?_
        refine aw_aload_n d_RA_put_47 rfl 1 rfl ?_
        refine aw_get (ic := 50) (ci := 4) (k := 1) (v := .ref 52) d_RA_put_48 rfl rfl (by decide) rfl mw_152 rfl ?_
        refine aw_iload d_RA_put_51 0 rfl ?_
        refine aw_iconst (v := nI 1) d_RA_put_53 (by decide) ?_
        refine aw_isubN d_RA_put_54 (by omega) ?_
        refine aw_daldN d_RA_put_55 rfl (by decide) (by omega) ?_
        refine aw_eqd (rb R (p0 - 1)) (h52 (p0 - 1) (by omega)) ?_
        refine aw_dastN d_RA_put_56 rfl (by decide) (by omega) ?_
        refine aw_iinc (v := (nI (p0 - 1))) (lv' := [(4, .int (nI (p0 - 1))), (0, .ref (50)), (1, .int (nI (d))), (2, .double (b))]) d_RA_put_57 (j := 0) rfl (nI_dec (by omega)) (by decide) rfl ?_
        refine aw_goto (tgt := 6) d_RA_put_60 (by decide) ?_
        exact ih _ (by omega) (p0 - 1) (ab_sD (ab_sI M1 (51) (p0) (nI (rd R (p0 - 1)))) (52) (p0) (rb R (p0 - 1))) rfl (by omega) ⟨fun a i h1 h2 => by (try simp only [sD_1]); rw [sI_ne (by omega)]; exact hf.1 a i h1 h2, fun a i h1 => by show (ab_sD _ _ _ _).2.1 a i = _; rw [sD_ne (by omega)]; exact hf.2.1 a i h1, by exact hf.2.2⟩ (fun i h => by (try simp only [sD_1]); rw [sI_ne (by omega)]; exact h51 i (by omega)) (fun i h h2 => by (try simp only [sD_1]); rcases Nat.lt_or_ge p0 i with h9 | h9; rw [sI_ne (by omega)]; exact h51' i h9 h2; rw [show i = p0 by omega, sI_hit]) (fun i h => by show (ab_sD _ _ _ _).2.1 _ _ = _; rw [sD_ne (by omega)]; exact h52 i (by omega)) (fun i h h2 => by show (ab_sD _ _ _ _).2.1 _ _ = _; rcases Nat.lt_or_ge p0 i with h9 | h9; rw [sD_ne (by omega)]; exact h52' i h9 h2; rw [show i = p0 by omega, sD_hit]) (by rw [hp]; obtain ⟨z, rfl⟩ : ∃ z, p0 = z + 1 := ⟨p0 - 1, by omega⟩; have c9 := c2; simp only [Nat.add_sub_cancel] at c9; simp only [rpos, Nat.add_sub_cancel]; rw [if_pos c9]) (by (try simp only [sD_1]); rw [sI_ne (by omega)]; exact hz)
set_option maxRecDepth 4000 in
theorem A_put {l : Launch} {M : ab_M} {Q : ab_O → ab_M → Prop} {R : Rg} {d : Nat} {b : UInt64} (hn : rn R < 12) (hr : iRC R M) (hb : fF b) (hf9 : ∀ i, i < rn R → fF (rb R i)) (hQ : ∀ M', frP 50 2 51 52 M M' → iRC (insR R d b) M' → Q (.inl none) M') : AW sys l ab_Zt k_RA_put 0 0 0 [(0, .ref (50)), (1, .int (nI (d))), (2, .double (b))] [] M 0 0 Q := by
  refine aw_aload_n d_RA_put_0 rfl 0 rfl ?_
  refine aw_get (ic := 50) (ci := 4) (k := 2) d_RA_put_1 rfl rfl (by decide) rfl mw_153 rfl ?_
  refine aw_eqi (nI (rn R)) hr.1 ?_
  refine aw_istore (lv' := [(4, .int (nI (rn R))), (0, .ref (50)), (1, .int (nI (d))), (2, .double (b))]) d_RA_put_4 (by decide) rfl ?_
  exact A_put_loop hn hr hb hf9 hQ _ (rn R) M rfl (Nat.le_refl _) ⟨fun _ _ _ _ => rfl, fun _ _ _ => rfl, rfl⟩ (fun i h => hr.2.2.1 i h) (fun i h h2 => by omega) (fun i h => hr.2.2.2 i h) (fun i h h2 => by omega) rfl hr.1
set_option maxRecDepth 4000 in
theorem B_come_loop {l : Launch} {M : ab_M} {Q : ab_O → ab_M → Prop} {R : Rg} {d : Nat} {b : UInt64} (hn : rn R < 12) (hr : iRR R M) (hb : fF b) (hf9 : ∀ i, i < rn R → fF (rb R i)) (hQ : ∀ M', frP 57 18 67 68 M M' → iRR (insR R d b) M' → Q (.inl none) M') : ∀ (mm : Nat) (p0 : Nat) (M1 : ab_M), p0 = mm → (ha : p0 ≤ rn R) → (hf : frP 57 18 67 68 M M1) → (h51 : ∀ i, i < p0 → M1.1 67 i = nI (rd R i)) → (h51' : ∀ i, p0 < i → i ≤ rn R → M1.1 67 i = nI (rd R (i - 1))) → (h52 : ∀ i, i < p0 → M1.2.1 68 i = rb R i) → (h52' : ∀ i, p0 < i → i ≤ rn R → M1.2.1 68 i = rb R (i - 1)) → (hp : rpos b (rb R) (rn R) = rpos b (rb R) p0) → (hz : M1.1 57 18 = nI (rn R)) → AW sys l ab_Zt k_MO_come 0 0 6 [(4, .int (nI (p0))), (0, .ref (57)), (1, .int (nI (d))), (2, .double (b))] [] M1 0 0 Q := by
  intro mm
  induction mm using Nat.strongRecOn with
  | ind mm ih =>
    intro p0 M1 hk ha hf h51 h51' h52 h52' hp hz
    refine aw_iload d_MO_come_6 0 rfl ?_
    refine aw_if_leN (tgt := 63) d_MO_come_8 (by decide) (by omega) (fun c1 => ?_) (fun c1 => ?_)
    · skip
      refine aw_aload_n d_MO_come_63 rfl 1 rfl ?_
      refine aw_get (ic := 57) (ci := 6) (k := 17) (v := .ref 68) d_MO_come_64 rfl rfl (by decide) rfl mw_792 rfl ?_
      refine aw_iload d_MO_come_67 0 rfl ?_
      refine aw_dload_n d_MO_come_69 rfl 3 rfl ?_
      refine aw_dastN d_MO_come_70 rfl (by decide) (by omega) ?_
      refine aw_aload_n d_MO_come_71 rfl 1 rfl ?_
      refine aw_get (ic := 57) (ci := 6) (k := 16) (v := .ref 67) d_MO_come_72 rfl rfl (by decide) rfl mw_791 rfl ?_
      refine aw_iload d_MO_come_75 0 rfl ?_
      refine aw_iload_n d_MO_come_77 rfl 2 rfl ?_
      refine aw_iastN d_MO_come_78 rfl (by decide) (by omega) ?_
      refine aw_aload_n d_MO_come_79 rfl 1 rfl ?_
      refine aw_dup d_MO_come_80 rfl ?_
      refine aw_get (ic := 57) (ci := 6) (k := 18) d_MO_come_81 rfl rfl (by decide) rfl mw_793 rfl ?_
      refine aw_eqi (nI (rn R)) (by (try simp only [sD_1]); rw [sI_ne (by omega)]; exact hz) ?_
      refine aw_iconst (v := nI 1) d_MO_come_84 (by decide) ?_
      refine aw_iaddN d_MO_come_85 ?_
      refine aw_putI (ic := 57) (ci := 6) (k := 18) d_MO_come_86 rfl rfl (by decide) rfl rfl rfl mw_793 ?_
      refine aw_vret d_MO_come_89 rfl (by decide) (by decide) ?_
      have ep : rpos b (rb R) (rn R) = p0 := by rw [hp, show p0 = 0 by omega]; rfl
      refine hQ _ ⟨fun a i h1 h2 => ?_, fun a i h1 => ?_, ?_⟩ ⟨?_, ?_, ?_, ?_⟩
      · rw [sI_ne (by omega)]; (try simp only [sD_1]); rw [sI_ne (by omega)]; exact hf.1 a i h1 h2
      · show (ab_sD _ _ _ _).2.1 a i = _; rw [sD_ne (by omega)]; exact hf.2.1 a i h1
      · exact hf.2.2
      · rw [sI_hit]; rfl
      · rw [sI_ne (by omega)]; (try simp only [sD_1]); rw [sI_ne (by omega)]; exact (hf.1 _ _ (by omega) (by omega)).trans hr.2.1
      · intro i hi
        rw [show rd (insR R d b) = insF (rd R) p0 d by show insF _ _ _ = _; rw [ep]]
        rw [sI_ne (by omega)]; (try simp only [sD_1])
        rcases Nat.lt_trichotomy i p0 with h | h | h
        · rw [insF_lo h, sI_ne (by omega)]; exact h51 i h
        · subst h; rw [insF_at, sI_hit]
        · rw [insF_hi h, sI_ne (by omega)]; exact h51' i h (by have : i < rn R + 1 := hi; omega)
      · intro i hi
        rw [show rb (insR R d b) = insF (rb R) p0 b by show insF _ _ _ = _; rw [ep]]
        show (ab_sD _ _ _ _).2.1 68 i = _
        rcases Nat.lt_trichotomy i p0 with h | h | h
        · rw [insF_lo h, sD_ne (by omega)]; exact h52 i h
        · subst h; rw [insF_at, sD_hit]
        · rw [insF_hi h, sD_ne (by omega)]; exact h52' i h (by have : i < rn R + 1 := hi; omega)
    · skip
      refine aw_aload_n d_MO_come_11 rfl 1 rfl ?_
      refine aw_get (ic := 57) (ci := 6) (k := 17) (v := .ref 68) d_MO_come_12 rfl rfl (by decide) rfl mw_792 rfl ?_
      refine aw_iload d_MO_come_15 0 rfl ?_
      refine aw_iconst (v := nI 1) d_MO_come_17 (by decide) ?_
      refine aw_isubN d_MO_come_18 (by omega) ?_
      refine aw_daldN d_MO_come_19 rfl (by decide) (by omega) ?_
      refine aw_eqd (rb R (p0 - 1)) (h52 (p0 - 1) (by omega)) ?_
      refine aw_dload_n d_MO_come_20 rfl 3 rfl ?_
      refine aw_dcmp d_MO_come_21 ?_
      refine ad_ge (hf9 _ (by omega)).n hb.n d_MO_come_22 (tgt := 63) (by decide) (fun c2 => ?_) (fun c2 => ?_)
      · skip
        refine aw_aload_n d_MO_come_63 rfl 1 rfl ?_
        refine aw_get (ic := 57) (ci := 6) (k := 17) (v := .ref 68) d_MO_come_64 rfl rfl (by decide) rfl mw_792 rfl ?_
        refine aw_iload d_MO_come_67 0 rfl ?_
        refine aw_dload_n d_MO_come_69 rfl 3 rfl ?_
        refine aw_dastN d_MO_come_70 rfl (by decide) (by omega) ?_
        refine aw_aload_n d_MO_come_71 rfl 1 rfl ?_
        refine aw_get (ic := 57) (ci := 6) (k := 16) (v := .ref 67) d_MO_come_72 rfl rfl (by decide) rfl mw_791 rfl ?_
        refine aw_iload d_MO_come_75 0 rfl ?_
        refine aw_iload_n d_MO_come_77 rfl 2 rfl ?_
        refine aw_iastN d_MO_come_78 rfl (by decide) (by omega) ?_
        refine aw_aload_n d_MO_come_79 rfl 1 rfl ?_
        refine aw_dup d_MO_come_80 rfl ?_
        refine aw_get (ic := 57) (ci := 6) (k := 18) d_MO_come_81 rfl rfl (by decide) rfl mw_793 rfl ?_
        refine aw_eqi (nI (rn R)) (by (try simp only [sD_1]); rw [sI_ne (by omega)]; exact hz) ?_
        refine aw_iconst (v := nI 1) d_MO_come_84 (by decide) ?_
        refine aw_iaddN d_MO_come_85 ?_
        refine aw_putI (ic := 57) (ci := 6) (k := 18) d_MO_come_86 rfl rfl (by decide) rfl rfl rfl mw_793 ?_
        refine aw_vret d_MO_come_89 rfl (by decide) (by decide) ?_
        have ep : rpos b (rb R) (rn R) = p0 := by rw [hp]; obtain ⟨z, rfl⟩ : ∃ z, p0 = z + 1 := ⟨p0 - 1, by omega⟩; simp only [rpos]; rw [if_neg (by simp only [Nat.add_sub_cancel] at c2; omega)]
        refine hQ _ ⟨fun a i h1 h2 => ?_, fun a i h1 => ?_, ?_⟩ ⟨?_, ?_, ?_, ?_⟩
        · rw [sI_ne (by omega)]; (try simp only [sD_1]); rw [sI_ne (by omega)]; exact hf.1 a i h1 h2
        · show (ab_sD _ _ _ _).2.1 a i = _; rw [sD_ne (by omega)]; exact hf.2.1 a i h1
        · exact hf.2.2
        · rw [sI_hit]; rfl
        · rw [sI_ne (by omega)]; (try simp only [sD_1]); rw [sI_ne (by omega)]; exact (hf.1 _ _ (by omega) (by omega)).trans hr.2.1
        · intro i hi
          rw [show rd (insR R d b) = insF (rd R) p0 d by show insF _ _ _ = _; rw [ep]]
          rw [sI_ne (by omega)]; (try simp only [sD_1])
          rcases Nat.lt_trichotomy i p0 with h | h | h
          · rw [insF_lo h, sI_ne (by omega)]; exact h51 i h
          · subst h; rw [insF_at, sI_hit]
          · rw [insF_hi h, sI_ne (by omega)]; exact h51' i h (by have : i < rn R + 1 := hi; omega)
        · intro i hi
          rw [show rb (insR R d b) = insF (rb R) p0 b by show insF _ _ _ = _; rw [ep]]
          show (ab_sD _ _ _ _).2.1 68 i = _
          rcases Nat.lt_trichotomy i p0 with h | h | h
          · rw [insF_lo h, sD_ne (by omega)]; exact h52 i h
          · subst h; rw [insF_at, sD_hit]
          · rw [insF_hi h, sD_ne (by omega)]; exact h52' i h (by have : i < rn R + 1 := hi; omega)
      · skip
        refine aw_aload_n d_MO_come_25 rfl 1 rfl ?_
        refine aw_get (ic := 57) (ci := 6) (k := 17) (v := .ref 68) d_MO_come_26 rfl rfl (by decide) rfl mw_792 rfl ?_
        refine aw_iload d_MO_come_29 0 rfl ?_
        refine aw_aload_n d_MO_come_31 rfl 1 rfl ?_
        refine aw_get (ic := 57) (ci := 6) (k := 17) (v := .ref 68) d_MO_come_32 rfl rfl (by decide) rfl mw_792 rfl ?_
        refine aw_iload d_MO_come_35 0 rfl ?_
        refine aw_iconst (v := nI 1) d_MO_come_37 (by decide) ?_
        refine aw_isubN d_MO_come_38 (by omega) ?_
        refine aw_daldN d_MO_come_39 rfl (by decide) (by omega) ?_
        refine aw_eqd (rb R (p0 - 1)) (h52 (p0 - 1) (by omega)) ?_
        refine aw_dastN d_MO_come_40 rfl (by decide) (by omega) ?_
        refine aw_aload_n d_MO_come_41 rfl 1 rfl ?_
        refine aw_get (ic := 57) (ci := 6) (k := 16) (v := .ref 67) d_MO_come_42 rfl rfl (by decide) rfl mw_791 rfl ?_
        refine aw_iload d_MO_come_45 0 rfl ?_
        refine aw_aload_n d_MO_come_47 rfl 1 rfl ?_
        refine aw_get (ic := 57) (ci := 6) (k := 16) (v := .ref 67) d_MO_come_48 rfl rfl (by decide) rfl mw_791 rfl ?_
        refine aw_iload d_MO_come_51 0 rfl ?_
        refine aw_iconst (v := nI 1) d_MO_come_53 (by decide) ?_
        refine aw_isubN d_MO_come_54 (by omega) ?_
        refine aw_ialdN d_MO_come_55 rfl (by decide) (by omega) ?_
        refine aw_eqi (nI (rd R (p0 - 1))) (h51 (p0 - 1) (by omega)) ?_
        refine aw_iastN d_MO_come_56 rfl (by decide) (by omega) ?_
        refine aw_iinc (v := (nI (p0 - 1))) (lv' := [(4, .int (nI (p0 - 1))), (0, .ref (57)), (1, .int (nI (d))), (2, .double (b))]) d_MO_come_57 (j := 0) rfl (nI_dec (by omega)) (by decide) rfl ?_
        refine aw_goto (tgt := 6) d_MO_come_60 (by decide) ?_
        exact ih _ (by omega) (p0 - 1) (ab_sI (ab_sD M1 (68) (p0) (rb R (p0 - 1))) (67) (p0) (nI (rd R (p0 - 1)))) rfl (by omega) ⟨fun a i h1 h2 => by (try simp only [sD_1]); rw [sI_ne (by omega)]; exact hf.1 a i h1 h2, fun a i h1 => by show (ab_sD _ _ _ _).2.1 a i = _; rw [sD_ne (by omega)]; exact hf.2.1 a i h1, by exact hf.2.2⟩ (fun i h => by (try simp only [sD_1]); rw [sI_ne (by omega)]; exact h51 i (by omega)) (fun i h h2 => by (try simp only [sD_1]); rcases Nat.lt_or_ge p0 i with h9 | h9; rw [sI_ne (by omega)]; exact h51' i h9 h2; rw [show i = p0 by omega, sI_hit]) (fun i h => by show (ab_sD _ _ _ _).2.1 _ _ = _; rw [sD_ne (by omega)]; exact h52 i (by omega)) (fun i h h2 => by show (ab_sD _ _ _ _).2.1 _ _ = _; rcases Nat.lt_or_ge p0 i with h9 | h9; rw [sD_ne (by omega)]; exact h52' i h9 h2; rw [show i = p0 by omega, sD_hit]) (by rw [hp]; obtain ⟨z, rfl⟩ : ∃ z, p0 = z + 1 := ⟨p0 - 1, by omega⟩; have c9 := c2; simp only [Nat.add_sub_cancel] at c9; simp only [rpos, Nat.add_sub_cancel]; rw [if_pos c9]) (by (try simp only [sD_1]); rw [sI_ne (by omega)]; exact hz)
set_option maxRecDepth 4000 in
theorem B_come {l : Launch} {M : ab_M} {Q : ab_O → ab_M → Prop} {R : Rg} {d : Nat} {b : UInt64} (hn : rn R < 12) (hr : iRR R M) (hb : fF b) (hf9 : ∀ i, i < rn R → fF (rb R i)) (hQ : ∀ M', frP 57 18 67 68 M M' → iRR (insR R d b) M' → Q (.inl none) M') : AW sys l ab_Zt k_MO_come 0 0 0 [(0, .ref (57)), (1, .int (nI (d))), (2, .double (b))] [] M 0 0 Q := by
  refine aw_aload_n d_MO_come_0 rfl 0 rfl ?_
  refine aw_get (ic := 57) (ci := 6) (k := 18) d_MO_come_1 rfl rfl (by decide) rfl mw_793 rfl ?_
  refine aw_eqi (nI (rn R)) hr.1 ?_
  refine aw_istore (lv' := [(4, .int (nI (rn R))), (0, .ref (57)), (1, .int (nI (d))), (2, .double (b))]) d_MO_come_4 (by decide) rfl ?_
  exact B_come_loop hn hr hb hf9 hQ _ (rn R) M rfl (Nat.le_refl _) ⟨fun _ _ _ _ => rfl, fun _ _ _ => rfl, rfl⟩ (fun i h => hr.2.2.1 i h) (fun i h h2 => by omega) (fun i h => hr.2.2.2 i h) (fun i h h2 => by omega) rfl hr.1
