/-! pure counting, searching, sets of bits -/
def cn (f : Nat → Bool) : Nat → Nat
  | 0 => 0
  | n + 1 => cn f n + (if f n then 1 else 0)
theorem cn_le (f : Nat → Bool) : ∀ n, cn f n ≤ n
  | 0 => Nat.le_refl 0
  | n + 1 => by have := cn_le f n; simp only [cn]; split <;> omega
theorem cn_congr {f g : Nat → Bool} : ∀ n, (∀ i, i < n → f i = g i) → cn f n = cn g n
  | 0, _ => rfl
  | n + 1, h => by simp only [cn]; rw [cn_congr n (fun i hi => h i (by omega)), h n (by omega)]
theorem cn_zero {f : Nat → Bool} : ∀ n, cn f n = 0 ↔ ∀ i, i < n → f i = false
  | 0 => by simp [cn]
  | n + 1 => by
    simp only [cn]
    constructor
    · intro h i hi
      by_cases hn : i = n
      · subst hn; cases hf : f i with
        | false => rfl
        | true => rw [hf] at h; simp at h
      · exact (cn_zero n).mp (by omega) i (by omega)
    · intro h
      rw [(cn_zero n).mpr (fun i hi => h i (by omega)), h n (by omega)]; simp
def ps (f : Nat → Nat) : Nat → Nat
  | 0 => 0
  | n + 1 => ps f n + f n
theorem ps_congr {f g : Nat → Nat} : ∀ n, (∀ i, i < n → f i = g i) → ps f n = ps g n
  | 0, _ => rfl
  | n + 1, h => by simp only [ps]; rw [ps_congr n (fun i hi => h i (by omega)), h n (by omega)]
theorem ps_le {f : Nat → Nat} {b : Nat} : ∀ n, (∀ i, i < n → f i ≤ b) → ps f n ≤ n * b
  | 0, _ => by simp [ps]
  | n + 1, h => by
    have := ps_le n (fun i hi => h i (by omega)); have := h n (by omega)
    simp only [ps, Nat.succ_mul]; omega
theorem ps_mono {f g : Nat → Nat} : ∀ n, (∀ i, i < n → f i ≤ g i) → ps f n ≤ ps g n
  | 0, _ => by simp [ps]
  | n + 1, h => by
    have := ps_mono n (fun i hi => h i (by omega)); have := h n (by omega)
    simp only [ps]; omega
theorem ps_at {f : Nat → Nat} : ∀ n i, i < n → f i ≤ ps f n
  | 0, i, h => by omega
  | n + 1, i, h => by
    simp only [ps]
    by_cases e : i = n
    · subst e; omega
    · have := ps_at n i (by omega) (f := f); omega
def an (f : Nat → Bool) : Nat → Bool
  | 0 => false
  | n + 1 => an f n || f n
theorem an_true {f : Nat → Bool} : ∀ {n i : Nat}, i < n → f i = true → an f n = true
  | n + 1, i, h, hf => by
    simp only [an, Bool.or_eq_true]
    by_cases e : i = n
    · subst e; exact Or.inr hf
    · exact Or.inl (an_true (by omega) hf)
theorem an_iff {f : Nat → Bool} : ∀ {n : Nat}, an f n = true ↔ ∃ i, i < n ∧ f i = true
  | 0 => by simp [an]
  | n + 1 => by
    simp only [an, Bool.or_eq_true]
    rw [an_iff]
    constructor
    · rintro (⟨i, h, hf⟩ | h)
      · exact ⟨i, by omega, hf⟩
      · exact ⟨n, by omega, h⟩
    · rintro ⟨i, h, hf⟩
      by_cases e : i = n
      · subst e; exact Or.inr hf
      · exact Or.inl ⟨i, by omega, hf⟩
def al (f : Nat → Bool) : Nat → Bool
  | 0 => true
  | n + 1 => al f n && f n
theorem al_false {f : Nat → Bool} : ∀ {n i : Nat}, i < n → f i = false → al f n = false
  | n + 1, i, h, hf => by
    simp only [al, Bool.and_eq_false_iff]
    by_cases e : i = n
    · subst e; exact Or.inr hf
    · exact Or.inl (al_false (by omega) hf)
theorem al_congr {f g : Nat → Bool} : ∀ n, (∀ i, i < n → f i = g i) → al f n = al g n
  | 0, _ => rfl
  | n + 1, h => by simp only [al]; rw [al_congr n (fun i hi => h i (by omega)), h n (by omega)]
theorem an_congr {f g : Nat → Bool} : ∀ n, (∀ i, i < n → f i = g i) → an f n = an g n
  | 0, _ => rfl
  | n + 1, h => by simp only [an]; rw [an_congr n (fun i hi => h i (by omega)), h n (by omega)]
/-- the first place from p on that has f, or n (or p itself, if p is past n) -/
def nxf (f : Nat → Bool) (n : Nat) : Nat → Nat → Nat
  | 0, p => p
  | k + 1, p => if p < n ∧ f p = false then nxf f n k (p + 1) else p
def nx (f : Nat → Bool) (n p : Nat) : Nat := nxf f n (n - p) p
theorem nx_go {f : Nat → Bool} {n p : Nat} (h : p < n) (hf : f p = false) : nx f n p = nx f n (p + 1) := by
  simp only [nx]
  rw [show n - p = (n - (p + 1)) + 1 by omega]
  simp only [nxf, if_pos (And.intro h hf)]
theorem nx_end {f : Nat → Bool} {n p : Nat} (h : n ≤ p) : nx f n p = p := by
  simp only [nx]; rw [show n - p = 0 by omega]; rfl
theorem nx_hit {f : Nat → Bool} {n p : Nat} (h : p < n) (hf : f p = true) : nx f n p = p := by
  simp only [nx]; rw [show n - p = (n - (p + 1)) + 1 by omega]
  simp only [nxf, hf]; simp
theorem nx_spec {f : Nat → Bool} {n : Nat} : ∀ (k p : Nat), n - p = k → p ≤ n → p ≤ nx f n p ∧ nx f n p ≤ n ∧ (∀ i, p ≤ i → i < nx f n p → f i = false) ∧ (nx f n p < n → f (nx f n p) = true) := by
  intro k
  induction k with
  | zero =>
    intro p hk hp
    rw [nx_end (by omega)]
    exact ⟨Nat.le_refl _, hp, fun i h1 h2 => by omega, fun h => by omega⟩
  | succ k ih =>
    intro p hk hp
    cases hf : f p with
    | true => rw [nx_hit (by omega) hf]; exact ⟨Nat.le_refl _, hp, fun i h1 h2 => by omega, fun _ => hf⟩
    | false =>
      rw [nx_go (by omega) hf]
      obtain ⟨h1, h2, h3, h4⟩ := ih (p + 1) (by omega) (by omega)
      refine ⟨by omega, h2, fun i a b => ?_, h4⟩
      by_cases e : i = p
      · subst e; exact hf
      · exact h3 i (by omega) b
/-! sets of bits -/
def bsn (f : Nat → Bool) : Nat → Nat
  | 0 => 0
  | n + 1 => bsn f n ||| (if f n then 2 ^ n else 0)
theorem bsn_bit (f : Nat → Bool) (i : Nat) : ∀ n, (bsn f n).testBit i = (decide (i < n) && f i)
  | 0 => by simp [bsn]
  | n + 1 => by
    simp only [bsn, Nat.testBit_or, bsn_bit f i n]
    by_cases h : i = n
    · subst h
      cases hf : f i <;> simp [Nat.testBit_two_pow_self]
    · cases hf : f n
      · by_cases h2 : i < n
        · simp [h2, show i < n + 1 by omega]
        · simp [h2, show ¬ i < n + 1 by omega]
      · rw [if_pos rfl, Nat.testBit_two_pow_of_ne (fun e => h e.symm)]
        by_cases h2 : i < n
        · simp [h2, show i < n + 1 by omega]
        · simp [h2, show ¬ i < n + 1 by omega]
theorem bsn_lt (f : Nat → Bool) (n : Nat) : bsn f n < 2 ^ n := by
  apply Nat.lt_pow_two_of_testBit
  intro i hi
  rw [bsn_bit, decide_eq_false (by omega)]; rfl
theorem bsn_eq {f : Nat → Bool} {n x : Nat} (h : ∀ i, x.testBit i = (decide (i < n) && f i)) : x = bsn f n :=
  Nat.eq_of_testBit_eq (fun i => by rw [h i, bsn_bit])
theorem bsn_or (f g : Nat → Bool) (n : Nat) : bsn f n ||| bsn g n = bsn (fun i => f i || g i) n :=
  bsn_eq (fun i => by rw [Nat.testBit_or, bsn_bit, bsn_bit]; cases decide (i < n) <;> rfl)
theorem bsn_none {f : Nat → Bool} {n : Nat} (h : ∀ i, i < n → f i = false) : bsn f n = 0 :=
  (bsn_eq (fun i => by
    rw [Nat.zero_testBit]
    by_cases hi : i < n
    · rw [h i hi]; simp
    · simp [hi])).symm
theorem bsn_zero {f : Nat → Bool} {n : Nat} : bsn f n = 0 ↔ cn f n = 0 := by
  rw [cn_zero]
  constructor
  · intro h i hi
    have := bsn_bit f i n
    rw [h, Nat.zero_testBit, decide_eq_true hi] at this
    simpa using this.symm
  · exact bsn_none
theorem bsn_title (f : Nat → Bool) (n c : Nat) : bsn f n &&& (2 ^ c - 1) = bsn (fun i => f i && decide (i < c)) n :=
  bsn_eq (fun i => by
    rw [Nat.testBit_and, bsn_bit, Nat.testBit_two_pow_sub_one]
    cases decide (i < n) <;> cases f i <;> simp)
/-- how many bits -/
def pc : Nat → Nat → Nat
  | 0, _ => 0
  | k + 1, s => s % 2 + pc k (s / 2)
theorem pc_zero : ∀ k, pc k 0 = 0
  | 0 => rfl
  | k + 1 => by simp [pc, pc_zero k]
theorem pc_top : ∀ (k n s : Nat), n < k → s < 2 ^ n → pc k (s + 2 ^ n) = pc k s + 1
  | 0, n, s, h, _ => by omega
  | k + 1, 0, s, _, hs => by
    have : s = 0 := by simpa using hs
    subst this; simp [pc, Nat.add_comm]
  | k + 1, n + 1, s, h, hs => by
    have e : 2 ^ (n + 1) = 2 * 2 ^ n := by rw [Nat.pow_succ, Nat.mul_comm]
    have h1 : (s + 2 ^ (n + 1)) % 2 = s % 2 := by rw [e]; omega
    have h2 : (s + 2 ^ (n + 1)) / 2 = s / 2 + 2 ^ n := by rw [e]; omega
    simp only [pc, h1, h2]
    rw [pc_top k n (s / 2) (by omega) (by rw [e] at hs; omega)]; omega
theorem pc_bsn (f : Nat → Bool) (k : Nat) : ∀ n, n ≤ k → pc k (bsn f n) = cn f n
  | 0, _ => pc_zero k
  | n + 1, h => by
    have hlt := bsn_lt f n
    simp only [bsn, cn]
    cases hf : f n with
    | false => simp [pc_bsn f k n (by omega)]
    | true =>
      have e : bsn f n ||| 2 ^ n = bsn f n + 2 ^ n := by
        have h9 := (Nat.two_pow_add_eq_or_of_lt hlt 1)
        rw [Nat.mul_one] at h9
        rw [Nat.or_comm, ← h9, Nat.add_comm]
      simp only [if_true]
      rw [e, pc_top k n _ (by omega) hlt, pc_bsn f k n (by omega)]
theorem bits_even (a : Nat) (h : 0 < a) : (2 * a) &&& (2 * a - 1) = 2 * (a &&& (a - 1)) := by
  apply Nat.eq_of_testBit_eq
  intro i
  cases i with
  | zero => simp
  | succ i =>
    rw [Nat.testBit_and, Nat.testBit_succ, Nat.testBit_succ, Nat.testBit_succ, show (2 * a - 1) / 2 = a - 1 by omega, show 2 * a / 2 = a by omega, show 2 * (a &&& (a - 1)) / 2 = a &&& (a - 1) by omega, Nat.testBit_and]
theorem bits_odd (a : Nat) : (2 * a + 1) &&& (2 * a) = 2 * a := by
  apply Nat.eq_of_testBit_eq
  intro i
  cases i with
  | zero => simp
  | succ i => rw [Nat.testBit_and, Nat.testBit_succ, Nat.testBit_succ, show (2 * a + 1) / 2 = a by omega, show 2 * a / 2 = a by omega]; simp
theorem pc_drop : ∀ (k s : Nat), 0 < s → s < 2 ^ k → pc k s = pc k (s &&& (s - 1)) + 1
  | 0, s, h, h2 => by simp at h2; omega
  | k + 1, s, h, h2 => by
    rcases Nat.mod_two_eq_zero_or_one s with e | e
    · have hs : s = 2 * (s / 2) := by omega
      have h0 : 0 < s / 2 := by omega
      have := pc_drop k (s / 2) h0 (by rw [Nat.pow_succ] at h2; omega)
      have e2 := bits_even (s / 2) h0
      rw [← hs] at e2
      rw [e2]
      simp only [pc, e]
      rw [show 2 * (s / 2 &&& s / 2 - 1) % 2 = 0 by omega, show 2 * (s / 2 &&& s / 2 - 1) / 2 = s / 2 &&& s / 2 - 1 by omega, this]; omega
    · have hs : s = 2 * (s / 2) + 1 := by omega
      have e2 := bits_odd (s / 2)
      have e3 : s &&& (s - 1) = 2 * (s / 2) := by
        have e4 : s - 1 = 2 * (s / 2) := by omega
        rw [e4]; rw [← hs] at e2; exact e2
      rw [e3]
      simp only [pc, e]
      rw [show 2 * (s / 2) % 2 = 0 by omega, show 2 * (s / 2) / 2 = s / 2 by omega]; omega
theorem bits_lt (s : Nat) (h : 0 < s) : s &&& (s - 1) < s := Nat.lt_of_le_of_lt Nat.and_le_right (by omega)
/-! the same on ints -/
theorem nI_or (a b : Nat) : nI a ||| nI b = nI (a ||| b) := by
  apply Int32.toBitVec_inj.mp
  show (nI a).toBitVec ||| (nI b).toBitVec = (nI (a ||| b)).toBitVec
  apply BitVec.eq_of_toNat_eq
  simp only [nI, Int32.toBitVec_ofNat', BitVec.toNat_or, BitVec.toNat_ofNat]
  apply Nat.eq_of_testBit_eq
  intro i
  simp only [Nat.testBit_or, Nat.testBit_mod_two_pow]
  cases decide (i < 32) <;> simp
theorem nI_and (a b : Nat) : nI a &&& nI b = nI (a &&& b) := by
  apply Int32.toBitVec_inj.mp
  show (nI a).toBitVec &&& (nI b).toBitVec = (nI (a &&& b)).toBitVec
  apply BitVec.eq_of_toNat_eq
  simp only [nI, Int32.toBitVec_ofNat', BitVec.toNat_and, BitVec.toNat_ofNat]
  apply Nat.eq_of_testBit_eq
  intro i
  simp only [Nat.testBit_and, Nat.testBit_mod_two_pow]
  cases decide (i < 32) <;> simp
theorem nI_all (x : Int32) : nI x.toBitVec.toNat = x := by
  apply Int32.toBitVec_inj.mp
  apply BitVec.eq_of_toNat_eq
  simp only [nI, Int32.toBitVec_ofNat', BitVec.toNat_ofNat]
  exact Nat.mod_eq_of_lt x.toBitVec.isLt
theorem nI_m1 (n : Nat) : nI (n + 1) - nI 1 = nI n := nI_pred n
/-! the end of a node -/
def itE (E : Nat → Nat) : Nat → Nat → Nat
  | 0, a => a
  | i + 1, a => E (itE E i a)
theorem itE_add (E : Nat → Nat) (a : Nat) (m : Nat) : ∀ n, itE E (m + n) a = itE E n (itE E m a)
  | 0 => rfl
  | n + 1 => by show E (itE E (m + n) a) = E (itE E n (itE E m a)); rw [itE_add E a m n]
theorem itE_congr {E F : Nat → Nat} {a : Nat} : ∀ n, (∀ i, i < n → E (itE E i a) = F (itE E i a)) → itE F n a = itE E n a
  | 0, _ => rfl
  | n + 1, h => by
    show F (itE F n a) = E (itE E n a)
    rw [itE_congr n (fun i hi => h i (by omega)), h n (by omega)]
