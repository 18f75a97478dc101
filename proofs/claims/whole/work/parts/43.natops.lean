/-! more rules at whole numbers -/
theorem sh31 : ∀ p : Nat, p < 31 → ((nI p &&& 31).toBitVec.smod 32).toNat = p := by decide +kernel
section AN2
variable {Y : ab_Y} {l : Launch} {Z : (Nat → Nat) → State → Prop} {K : ab_K} {d w pc : Nat} {lv : List (Nat × Value)} {st : List Value} {M : ab_M} {n1 n2 : Nat} {Q : ab_O → ab_M → Prop}
theorem aw_imulN {a b : Nat} (hd : decode (kB K) pc = .ok (.imul, 1)) (h : AW Y l Z K d w (pc + 1) lv (.int (nI (a * b)) :: st) M n1 n2 Q) : AW Y l Z K d w pc lv (.int (nI b) :: .int (nI a) :: st) M n1 n2 Q := aw_imul hd (aw_eqi _ (pk_mul a b) h)
theorem aw_iorN {a b : Nat} (hd : decode (kB K) pc = .ok (.ior, 1)) (h : AW Y l Z K d w (pc + 1) lv (.int (nI (a ||| b)) :: st) M n1 n2 Q) : AW Y l Z K d w pc lv (.int (nI b) :: .int (nI a) :: st) M n1 n2 Q := aw_ior hd (aw_eqi _ (nI_or a b) h)
theorem aw_iandN {a b : Nat} (hd : decode (kB K) pc = .ok (.iand, 1)) (h : AW Y l Z K d w (pc + 1) lv (.int (nI (a &&& b)) :: st) M n1 n2 Q) : AW Y l Z K d w pc lv (.int (nI b) :: .int (nI a) :: st) M n1 n2 Q := aw_iand hd (aw_eqi _ (nI_and a b) h)
theorem aw_ishlN {a p : Nat} (hd : decode (kB K) pc = .ok (.ishl, 1)) (hp : p < 31) (ha : a * 2 ^ p < 2 ^ 32) (h : AW Y l Z K d w (pc + 1) lv (.int (nI (a * 2 ^ p)) :: st) M n1 n2 Q) : AW Y l Z K d w pc lv (.int (nI p) :: .int (nI a) :: st) M n1 n2 Q := aw_ishl hd (aw_eqi _ (pk_shlN _ p (sh31 p hp) ha) h)
theorem aw_ishl1 {p : Nat} (hd : decode (kB K) pc = .ok (.ishl, 1)) (hp : p < 31) (h : AW Y l Z K d w (pc + 1) lv (.int (nI (2 ^ p)) :: st) M n1 n2 Q) : AW Y l Z K d w pc lv (.int (nI p) :: .int (nI 1) :: st) M n1 n2 Q :=
  aw_ishlN hd hp (by rw [Nat.one_mul]; exact Nat.pow_lt_pow_right (by omega) (by omega)) (by rw [Nat.one_mul]; exact h)
theorem aw_ishrN {a p : Nat} (hd : decode (kB K) pc = .ok (.ishr, 1)) (hp : p < 31) (ha : a < 2 ^ 31) (h : AW Y l Z K d w (pc + 1) lv (.int (nI (a / 2 ^ p)) :: st) M n1 n2 Q) : AW Y l Z K d w pc lv (.int (nI p) :: .int (nI a) :: st) M n1 n2 Q := aw_ishr hd (aw_eqi _ (pk_shrN ha _ p (sh31 p hp)) h)
/-- a switch, at an int of which we know enough -/
theorem aw_tabI {dflt lo hi : Int} {offs : Array Int} {len : Nat} {x : Int32} (tgt : Nat) (hd : decode (kB K) pc = .ok (.tableswitch dflt lo hi offs, len)) (hx : ((x.toInt < lo ∨ hi < x.toInt) ∧ (pc : Int) + dflt = (tgt : Int)) ∨ ∃ off, ¬ x.toInt < lo ∧ ¬ hi < x.toInt ∧ offs[(x.toInt - lo).toNat]? = some off ∧ (pc : Int) + off = (tgt : Int)) (h : AW Y l Z K d w tgt lv st M n1 n2 Q) : AW Y l Z K d w pc lv (.int x :: st) M n1 n2 Q := by
  rcases hx with ⟨h1, h2⟩ | ⟨off, h1, h2, h3, h4⟩
  · exact aw_tableOut hd h1 h2 h
  · exact aw_tableIn hd h1 h2 h3 h4 h
theorem aw_tabN {dflt lo hi : Int} {offs : Array Int} {len k : Nat} (tgt : Nat) (hk : k < 2147483648) (hd : decode (kB K) pc = .ok (.tableswitch dflt lo hi offs, len)) (hx : (((k : Int) < lo ∨ hi < (k : Int)) ∧ (pc : Int) + dflt = (tgt : Int)) ∨ ∃ off, ¬ (k : Int) < lo ∧ ¬ hi < (k : Int) ∧ offs[((k : Int) - lo).toNat]? = some off ∧ (pc : Int) + off = (tgt : Int)) (h : AW Y l Z K d w tgt lv st M n1 n2 Q) : AW Y l Z K d w pc lv (.int (nI k) :: st) M n1 n2 Q :=
  aw_tabI tgt hd (by rw [nI_toInt (by omega)]; exact hx) h
theorem aw_decN {k n j : Nat} {lv' : List (Nat × Value)} (hd : decode (kB K) pc = .ok (.iinc k (-1), 3)) (hj : lv[j]? = some (k, .int (nI (n + 1)))) (hk : k < kL K) (hl : (k, .int (nI n)) :: lv.filter (fun z => !(z.1 == k) && !(z.1 + 1 == k && z.2.category == 2)) = lv') (h : AW Y l Z K d w (pc + 3) lv' st M n1 n2 Q) : AW Y l Z K d w pc lv st M n1 n2 Q :=
  aw_iinc hd hj (by exact pk_m1 n) hk hl h
end AN2
theorem nI_b (b : Bool) : nI (if b then 1 else 0) = 0 ∨ nI (if b then 1 else 0) = 1 := by cases b <;> simp [nI]
