theorem nI_addE {a b : Int32} {m n : Nat} (h1 : a = nI m) (h2 : b = nI n) : a + b = nI (m + n) := by rw [h1, h2, nI_add]
theorem nI_mulE {a b : Int32} {m n : Nat} (h1 : a = nI m) (h2 : b = nI n) : a * b = nI (m * n) := by rw [h1, h2, pk_mul]
theorem nI_subE {a b : Int32} {m n : Nat} (h1 : a = nI m) (h2 : b = nI n) (h : n ≤ m) : a - b = nI (m - n) := by rw [h1, h2, pk_sub h]
theorem fa_lt (a b : Int32) : a < b ↔ a.toInt < b.toInt := Int32.lt_iff_toInt_lt
theorem fa_le (a b : Int32) : a ≤ b ↔ a.toInt ≤ b.toInt := Int32.le_iff_toInt_le
theorem fa_eq (a b : Int32) : a = b ↔ a.toInt = b.toInt := ⟨fun h => h ▸ rfl, Int32.toInt_inj.mp⟩
/-- x lies between l and m -/
def inI (x l m : Int32) : Prop := l ≤ x ∧ x ≤ m
section B8
variable {X : SX} {d : Nat} {h : HH} {Q : Int32 → HH → Prop}
theorem FC_within_c {x l m : Int32} (t : inI x l m → Q 1 h) (f : ¬ inI x l m → Q 0 h) : E X d FC_within 0 [.int x, .int l, .int m] [] h Q := by
  refine (FC_within_0 (FC_within_1 (FC_within_2 (fun c2 => (FC_within_14 (FC_within_15 rfl ?_))) (fun c2 => (FC_within_5 (FC_within_6 (FC_within_7 (fun c7 => (FC_within_14 (FC_within_15 rfl ?_))) (fun c7 => (FC_within_10 (FC_within_11 (FC_within_15 rfl ?_)))))))))))
  · exact f (fun z => Int32.not_le.mpr c2 z.1)
  · exact f (fun z => Int32.not_le.mpr c7 z.2)
  · exact t ⟨Int32.not_lt.mp c2, Int32.not_lt.mp c7⟩
theorem FM_in_c {x l m : Int32} (t : inI x l m → Q 1 h) (f : ¬ inI x l m → Q 0 h) : E X d FM_in 0 [.int x, .int l, .int m] [] h Q := by
  refine (FM_in_0 (FM_in_1 (FM_in_2 (fun c2 => (FM_in_14 (FM_in_15 rfl ?_))) (fun c2 => (FM_in_5 (FM_in_6 (FM_in_7 (fun c7 => (FM_in_14 (FM_in_15 rfl ?_))) (fun c7 => (FM_in_10 (FM_in_11 (FM_in_15 rfl ?_)))))))))))
  · exact f (fun z => Int32.not_le.mpr c2 z.1)
  · exact f (fun z => Int32.not_le.mpr c7 z.2)
  · exact t ⟨Int32.not_lt.mp c2, Int32.not_lt.mp c7⟩
end B8
