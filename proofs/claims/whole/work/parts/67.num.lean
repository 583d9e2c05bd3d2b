theorem i32_add {a b : Int32} (h1 : -2147483648 ≤ a.toInt + b.toInt) (h2 : a.toInt + b.toInt < 2147483648) : (a + b).toInt = a.toInt + b.toInt := by
  rw [Int32.toInt_add]
  exact Int.bmod_eq_of_le (by omega) (by omega)
theorem i32_sub {a b : Int32} (h1 : -2147483648 ≤ a.toInt - b.toInt) (h2 : a.toInt - b.toInt < 2147483648) : (a - b).toInt = a.toInt - b.toInt := by
  rw [Int32.toInt_sub]
  exact Int.bmod_eq_of_le (by omega) (by omega)
theorem i32_mul {a b : Int32} (h1 : -2147483648 ≤ a.toInt * b.toInt) (h2 : a.toInt * b.toInt < 2147483648) : (a * b).toInt = a.toInt * b.toInt := by
  rw [Int32.toInt_mul]
  exact Int.bmod_eq_of_le (by omega) (by omega)
theorem i64_add {a b : Int64} (h1 : -9223372036854775808 ≤ a.toInt + b.toInt) (h2 : a.toInt + b.toInt < 9223372036854775808) : (a + b).toInt = a.toInt + b.toInt := by
  rw [Int64.toInt_add]
  exact Int.bmod_eq_of_le (by omega) (by omega)
theorem i64_mul {a b : Int64} (h1 : -9223372036854775808 ≤ a.toInt * b.toInt) (h2 : a.toInt * b.toInt < 9223372036854775808) : (a * b).toInt = a.toInt * b.toInt := by
  rw [Int64.toInt_mul]
  exact Int.bmod_eq_of_le (by omega) (by omega)
theorem i64_neg {a : Int64} (h1 : -9223372036854775808 ≤ - a.toInt) (h2 : - a.toInt < 9223372036854775808) : (-a).toInt = - a.toInt := by
  rw [Int64.toInt_neg]
  exact Int.bmod_eq_of_le (by omega) (by omega)
theorem fl_lt (a b : Int64) : a < b ↔ a.toInt < b.toInt := Int64.lt_iff_toInt_lt
theorem fl_le (a b : Int64) : a ≤ b ↔ a.toInt ≤ b.toInt := Int64.le_iff_toInt_le
/-- a row of longs filled -/
def fJ (h : HH) (a n : Nat) (v : Int64) : HH := (h.1, fun x y => if x = a ∧ y < n then v else h.2 x y)
theorem fJ_0 {h : HH} {a : Nat} {v : Int64} : fJ h a 0 v = h := by
  refine Prod.ext rfl ?_
  funext x y
  show (if x = a ∧ y < 0 then v else h.2 x y) = _
  rw [if_neg (by omega)]
theorem fJ_s {h : HH} {a n : Nat} {v : Int64} : pL (fJ h a n v) a n v = fJ h a (n + 1) v := by
  refine Prod.ext rfl ?_
  funext x y
  show (if x = a ∧ y = n then v else if x = a ∧ y < n then v else h.2 x y) = if x = a ∧ y < n + 1 then v else h.2 x y
  by_cases z : x = a ∧ y = n
  · rw [if_pos z, if_pos (by omega)]
  · rw [if_neg z]
    by_cases z2 : x = a ∧ y < n
    · rw [if_pos z2, if_pos (by omega)]
    · rw [if_neg z2, if_neg (by omega)]
section NU
variable {X : SX} {d : Nat} {h : HH} {Q : Int32 → HH → Prop}
theorem JA_fillJ_l {a n : Nat} {v : Int64} (ha : LAY[a]? = some (Sum.inr (1, n))) (hn : n < 1000) (k : Q 0 (fJ h a n v)) : ∀ (m i : Nat), i + m = n → E X d JA_fillJ 6 [.ref a, .long v, U0, .int (nI i), .int (nI n)] [] (fJ h a i v) Q := by
  intro m
  induction m with
  | zero =>
    intro i hi
    obtain rfl : i = n := by omega
    refine (JA_fillJ_6 (JA_fillJ_7 (JA_fillJ_9 (fun c9 => (JA_fillJ_22 ?_)) (fun c9 => ?_))))
    · exact k
    · exact absurd (Int32.le_refl _) c9
  | succ m ih =>
    intro i hi
    refine (JA_fillJ_6 (JA_fillJ_7 (JA_fillJ_9 (fun c9 => (JA_fillJ_22 ?_)) (fun c9 => (JA_fillJ_12 (JA_fillJ_13 (JA_fillJ_14 (JA_fillJ_15n ha (by first | assumption | exact rfl) (by omega) (by omega) (JA_fillJ_16 (JA_fillJ_19 ?_))))))))))
    · exact absurd ((leN rfl rfl (by omega) (by omega)).mp c9) (by omega)
    · rw [fJ_s, nI_1]
      exact ih (i + 1) (by omega)
theorem JA_fillJ_c {a n : Nat} {v : Int64} (ha : LAY[a]? = some (Sum.inr (1, n))) (hn : n < 1000) (k : Q 0 (fJ h a n v)) : E X d JA_fillJ 0 [.ref a, .long v, U0, U0, U0] [] h Q := by
  refine (JA_fillJ_0 (JA_fillJ_1 (JA_fillJ_2 (JA_fillJ_3 ha (by decide) (JA_fillJ_4 ?_)))))
  have := JA_fillJ_l (X := X) (d := d) (h := h) (Q := Q) ha hn k n 0 (by omega)
  rw [fJ_0] at this
  exact this
theorem JA_fillI_l {a n : Nat} {v : Int32} (ha : LAY[a]? = some (Sum.inr (0, n))) (hn : n < 1000) (k : Q 0 (fR h a 0 n v)) : ∀ (m i : Nat), i + m = n → E X d JA_fillI 5 [.ref a, .int v, .int (nI i), .int (nI n)] [] (fR h a 0 i v) Q := by
  intro m
  induction m with
  | zero =>
    intro i hi
    obtain rfl : i = n := by omega
    refine (JA_fillI_5 (JA_fillI_6 (JA_fillI_7 (fun c7 => (JA_fillI_20 ?_)) (fun c7 => ?_))))
    · exact k
    · exact absurd (Int32.le_refl _) c7
  | succ m ih =>
    intro i hi
    have s := fR_s (h := h) (i := a) (b := 0) (n := i) (v := v)
    rw [Nat.zero_add] at s
    refine (JA_fillI_5 (JA_fillI_6 (JA_fillI_7 (fun c7 => (JA_fillI_20 ?_)) (fun c7 => (JA_fillI_10 (JA_fillI_11 (JA_fillI_12 (JA_fillI_13n ha (by first | assumption | exact rfl) (by omega) (by omega) (JA_fillI_14 (JA_fillI_17 ?_))))))))))
    · exact absurd ((leN rfl rfl (by omega) (by omega)).mp c7) (by omega)
    · rw [s, nI_1]
      exact ih (i + 1) (by omega)
theorem JA_fillI_c {a n : Nat} {v : Int32} (ha : LAY[a]? = some (Sum.inr (0, n))) (hn : n < 1000) (k : Q 0 (fR h a 0 n v)) : E X d JA_fillI 0 [.ref a, .int v, U0, U0] [] h Q := by
  refine (JA_fillI_0 (JA_fillI_1 (JA_fillI_2 (JA_fillI_3 ha (by decide) (JA_fillI_4 ?_)))))
  have := JA_fillI_l (X := X) (d := d) (h := h) (Q := Q) ha hn k n 0 (by omega)
  rw [fR_0] at this
  exact this
end NU
