/-! comparisons of ints of which the values are known as whole numbers -/
theorem i0_int : (0 : Int32).toInt = 0 := by decide
theorem nm_int {j : Nat} (h : j < 2147483648) : (nI j - nI 1).toInt = (j : Int) - 1 := by
  cases j with
  | zero => decide
  | succ j => rw [nI_m1, nI_toInt (by omega)]; omega
theorem i1_int : (1 : Int32).toInt = 1 := by decide
section AV
variable {Y : ab_Y} {l : Launch} {Z : (Nat → Nat) → State → Prop} {K : ab_K} {d w pc : Nat} {lv : List (Nat × Value)} {st : List Value} {M : ab_M} {n1 n2 : Nat} {Q : ab_O → ab_M → Prop} {x y : Int32} {a b : Int} {off : Int} {tgt : Nat}
theorem at_lt (hx : x.toInt = a) (hy : y.toInt = b) (hd : decode (kB K) pc = .ok (.if_icmp .lt off, 3)) (ht : (pc : Int) + off = (tgt : Int)) (kt : a < b → AW Y l Z K d w tgt lv st M n1 n2 Q) (kf : b ≤ a → AW Y l Z K d w (pc + 3) lv st M n1 n2 Q) : AW Y l Z K d w pc lv (.int y :: .int x :: st) M n1 n2 Q :=
  aw_icmp_lt hd ht (fun c => kt (by rw [Int32.lt_iff_toInt_lt, hx, hy] at c; omega)) (fun c => kf (by rw [Int32.lt_iff_toInt_lt, hx, hy] at c; omega))
theorem az_lt (hx : x.toInt = a) (hd : decode (kB K) pc = .ok (.ifCond .lt off, 3)) (ht : (pc : Int) + off = (tgt : Int)) (kt : a < 0 → AW Y l Z K d w tgt lv st M n1 n2 Q) (kf : 0 ≤ a → AW Y l Z K d w (pc + 3) lv st M n1 n2 Q) : AW Y l Z K d w pc lv (.int x :: st) M n1 n2 Q :=
  aw_if_lt hd ht (fun c => kt (by rw [Int32.lt_iff_toInt_lt, hx, i0_int] at c; omega)) (fun c => kf (by rw [Int32.lt_iff_toInt_lt, hx, i0_int] at c; omega))
theorem at_ge (hx : x.toInt = a) (hy : y.toInt = b) (hd : decode (kB K) pc = .ok (.if_icmp .ge off, 3)) (ht : (pc : Int) + off = (tgt : Int)) (kt : b ≤ a → AW Y l Z K d w tgt lv st M n1 n2 Q) (kf : a < b → AW Y l Z K d w (pc + 3) lv st M n1 n2 Q) : AW Y l Z K d w pc lv (.int y :: .int x :: st) M n1 n2 Q :=
  aw_icmp_ge hd ht (fun c => kt (by rw [Int32.le_iff_toInt_le, hx, hy] at c; omega)) (fun c => kf (by rw [Int32.le_iff_toInt_le, hx, hy] at c; omega))
theorem az_ge (hx : x.toInt = a) (hd : decode (kB K) pc = .ok (.ifCond .ge off, 3)) (ht : (pc : Int) + off = (tgt : Int)) (kt : 0 ≤ a → AW Y l Z K d w tgt lv st M n1 n2 Q) (kf : a < 0 → AW Y l Z K d w (pc + 3) lv st M n1 n2 Q) : AW Y l Z K d w pc lv (.int x :: st) M n1 n2 Q :=
  aw_if_ge hd ht (fun c => kt (by rw [Int32.le_iff_toInt_le, i0_int, hx] at c; omega)) (fun c => kf (by rw [Int32.le_iff_toInt_le, i0_int, hx] at c; omega))
theorem at_gt (hx : x.toInt = a) (hy : y.toInt = b) (hd : decode (kB K) pc = .ok (.if_icmp .gt off, 3)) (ht : (pc : Int) + off = (tgt : Int)) (kt : b < a → AW Y l Z K d w tgt lv st M n1 n2 Q) (kf : a ≤ b → AW Y l Z K d w (pc + 3) lv st M n1 n2 Q) : AW Y l Z K d w pc lv (.int y :: .int x :: st) M n1 n2 Q :=
  aw_icmp_gt hd ht (fun c => kt (by rw [Int32.lt_iff_toInt_lt, hx, hy] at c; omega)) (fun c => kf (by rw [Int32.lt_iff_toInt_lt, hx, hy] at c; omega))
theorem az_gt (hx : x.toInt = a) (hd : decode (kB K) pc = .ok (.ifCond .gt off, 3)) (ht : (pc : Int) + off = (tgt : Int)) (kt : 0 < a → AW Y l Z K d w tgt lv st M n1 n2 Q) (kf : a ≤ 0 → AW Y l Z K d w (pc + 3) lv st M n1 n2 Q) : AW Y l Z K d w pc lv (.int x :: st) M n1 n2 Q :=
  aw_if_gt hd ht (fun c => kt (by rw [Int32.lt_iff_toInt_lt, i0_int, hx] at c; omega)) (fun c => kf (by rw [Int32.lt_iff_toInt_lt, i0_int, hx] at c; omega))
theorem at_le (hx : x.toInt = a) (hy : y.toInt = b) (hd : decode (kB K) pc = .ok (.if_icmp .le off, 3)) (ht : (pc : Int) + off = (tgt : Int)) (kt : a ≤ b → AW Y l Z K d w tgt lv st M n1 n2 Q) (kf : b < a → AW Y l Z K d w (pc + 3) lv st M n1 n2 Q) : AW Y l Z K d w pc lv (.int y :: .int x :: st) M n1 n2 Q :=
  aw_icmp_le hd ht (fun c => kt (by rw [Int32.le_iff_toInt_le, hx, hy] at c; omega)) (fun c => kf (by rw [Int32.le_iff_toInt_le, hx, hy] at c; omega))
theorem az_le (hx : x.toInt = a) (hd : decode (kB K) pc = .ok (.ifCond .le off, 3)) (ht : (pc : Int) + off = (tgt : Int)) (kt : a ≤ 0 → AW Y l Z K d w tgt lv st M n1 n2 Q) (kf : 0 < a → AW Y l Z K d w (pc + 3) lv st M n1 n2 Q) : AW Y l Z K d w pc lv (.int x :: st) M n1 n2 Q :=
  aw_if_le hd ht (fun c => kt (by rw [Int32.le_iff_toInt_le, hx, i0_int] at c; omega)) (fun c => kf (by rw [Int32.le_iff_toInt_le, hx, i0_int] at c; omega))
theorem at_eq (hx : x.toInt = a) (hy : y.toInt = b) (hd : decode (kB K) pc = .ok (.if_icmp .eq off, 3)) (ht : (pc : Int) + off = (tgt : Int)) (kt : a = b → AW Y l Z K d w tgt lv st M n1 n2 Q) (kf : a ≠ b → AW Y l Z K d w (pc + 3) lv st M n1 n2 Q) : AW Y l Z K d w pc lv (.int y :: .int x :: st) M n1 n2 Q :=
  aw_icmp_eq hd ht (fun c => kt (by rw [← Int32.toInt_inj, hx, hy] at c; omega)) (fun c => kf (by rw [← Int32.toInt_inj, hx, hy] at c; omega))
theorem az_eq (hx : x.toInt = a) (hd : decode (kB K) pc = .ok (.ifCond .eq off, 3)) (ht : (pc : Int) + off = (tgt : Int)) (kt : a = 0 → AW Y l Z K d w tgt lv st M n1 n2 Q) (kf : a ≠ 0 → AW Y l Z K d w (pc + 3) lv st M n1 n2 Q) : AW Y l Z K d w pc lv (.int x :: st) M n1 n2 Q :=
  aw_if_eq hd ht (fun c => kt (by rw [← Int32.toInt_inj, hx, i0_int] at c; omega)) (fun c => kf (by rw [← Int32.toInt_inj, hx, i0_int] at c; omega))
theorem at_ne (hx : x.toInt = a) (hy : y.toInt = b) (hd : decode (kB K) pc = .ok (.if_icmp .ne off, 3)) (ht : (pc : Int) + off = (tgt : Int)) (kt : a ≠ b → AW Y l Z K d w tgt lv st M n1 n2 Q) (kf : a = b → AW Y l Z K d w (pc + 3) lv st M n1 n2 Q) : AW Y l Z K d w pc lv (.int y :: .int x :: st) M n1 n2 Q :=
  aw_icmp_ne hd ht (fun c => kt (by rw [← Int32.toInt_inj, hx, hy] at c; omega)) (fun c => kf (by rw [← Int32.toInt_inj, hx, hy] at c; omega))
theorem az_ne (hx : x.toInt = a) (hd : decode (kB K) pc = .ok (.ifCond .ne off, 3)) (ht : (pc : Int) + off = (tgt : Int)) (kt : a ≠ 0 → AW Y l Z K d w tgt lv st M n1 n2 Q) (kf : a = 0 → AW Y l Z K d w (pc + 3) lv st M n1 n2 Q) : AW Y l Z K d w pc lv (.int x :: st) M n1 n2 Q :=
  aw_if_ne hd ht (fun c => kt (by rw [← Int32.toInt_inj, hx, i0_int] at c; omega)) (fun c => kf (by rw [← Int32.toInt_inj, hx, i0_int] at c; omega))
end AV
